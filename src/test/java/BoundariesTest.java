import java.io.IOException;
import java.nio.file.Files;
import java.nio.file.Path;
import java.util.regex.Matcher;
import java.util.regex.Pattern;

/**
 * A test for each sentence of the document's terms and promises, at its boundary cases. Each test
 * quotes its sentence; a sentence that no test quotes, or that the document has not, is told.
 */
public final class BoundariesTest {
    private static final Path DOCUMENT = Path.of("../shared/DOC.md");
    private static final Path SOURCE = Path.of("src/main/java/ZeroParts.java");

    public static void main(String[] args) throws IOException {
        TermsBoundaries.all();
        TextBoundaries.all();
        headings();
        ChangeBoundaries.all();
        ValueBoundaries.all();
        WhatIfBoundaries.all();
        StateBoundaries.all();
        quotes();
        Check.finish();
    }

    /** The comment lines of the interface, each ahead of its calls and behind those of the one before. */
    private static void headings() throws IOException {
        String[] headings = {
            "group and sequence", "values of the group", "values of the sequence", "what if, which changes nothing",
            "command text, undo and checksum"};
        String[] calls = {
            "`begin`, `add`, `removeAt`, `lay`, `laySplit`", "`sum`, `element`, `bound`",
            "`at`, `set`, `block`, `part`, `whole`, `sums`, `cross`",
            "`reason`, `freeElement`, `freeFor`, `blocksWith`, `alike`, `unlikeBlocks`",
            "`type`, `clearCommands`, `runCommands`, `undo`, `digest`"};
        String source = Files.readString(SOURCE);
        for (int k = 0; k < headings.length; k++) {
            int from = source.indexOf("// ---- " + headings[k] + "\n");
            int to = k + 1 < headings.length ? source.indexOf("// ---- " + headings[k + 1] + "\n") : source.length();
            String due = calls[k].replace("`", "");
            Check.test("EXCEPTIONS", "Ahead of the calls " + calls[k] + " the interface says: ---- " + headings[k] + ".", () -> {
                Check.isTrue("the heading stands ahead of the next", from >= 0 && from < to);
                Check.sameText("the calls between", callsIn(source.substring(from, to)), due);
            });
        }
    }

    private static String callsIn(String source) {
        StringBuilder names = new StringBuilder();
        Matcher matcher = Pattern.compile("\n    public \\w+ (\\w+)\\(").matcher(source);
        while (matcher.find()) {
            names.append(names.length() == 0 ? "" : ", ").append(matcher.group(1));
        }
        return names.toString();
    }

    private static void quotes() throws IOException {
        if (!Files.exists(DOCUMENT)) {
            System.out.println("no " + DOCUMENT + " to compare the quoted sentences with");
            return;
        }
        Document document = Document.read(DOCUMENT);
        for (Check.Sentence sentence : Check.sentences()) {
            Check.isTrue("the document says: [" + sentence.heading() + "] " + sentence.text(),
                document.quote(sentence.heading(), sentence.text()));
        }
        for (String rest : document.notQuoted()) {
            Check.isTrue("a test of: " + rest, false);
        }
    }
}
