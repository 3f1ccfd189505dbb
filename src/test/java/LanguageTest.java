import java.io.IOException;
import java.lang.reflect.Constructor;
import java.lang.reflect.Field;
import java.lang.reflect.Method;
import java.lang.reflect.Modifier;
import java.nio.file.Files;
import java.nio.file.Path;
import java.util.ArrayList;
import java.util.Arrays;
import java.util.Collections;
import java.util.List;
import java.util.regex.Matcher;
import java.util.regex.Pattern;

/** The face of the class, and what of LANGUAGE.md can be seen in its text. Runs in the project's folder. */
public final class LanguageTest {
    private static final String[] FACE = {
        "int add(int) IndexOutOfBoundsException IllegalStateException",
        "int alike(int, int) IllegalArgumentException",
        "int at(int, int) IndexOutOfBoundsException IllegalArgumentException",
        "int begin(int, int) IllegalArgumentException",
        "int block(int) IllegalArgumentException",
        "int blocksWith(int, int) IndexOutOfBoundsException IllegalArgumentException",
        "int bound()",
        "int clearCommands()",
        "double cross()",
        "long digest()",
        "int element(int, int) IndexOutOfBoundsException IllegalArgumentException",
        "int freeElement()",
        "int freeFor()",
        "int lay(int, int) IndexOutOfBoundsException IllegalArgumentException",
        "int laySplit() IllegalStateException",
        "int part(int, int) IllegalArgumentException",
        "int reason(int) IllegalArgumentException",
        "int removeAt(int) IndexOutOfBoundsException",
        "int runCommands()",
        "int set(int, int) IllegalArgumentException",
        "int sum(int, int) IndexOutOfBoundsException",
        "long sums()",
        "int type(int) IllegalArgumentException IllegalStateException",
        "int undo() IllegalStateException",
        "int unlikeBlocks()",
        "int whole(int) IllegalArgumentException",
    };

    /** What rules 1 to 6 and 13 leave out, each as a pattern over the source without its comments. */
    private static final String[] LEFT_OUT = {
        "\\bimport\\b", "\\bpackage\\b", "->", "::", "Exact\\(", "\\bfinally\\b", "\\bassert\\b",
        "\\bsynchronized\\b", "\\bcatch\\b", "\\btry\\b", "getMessage", "\\bstatic \\{", "\\bSystem\\.(?!arraycopy)",
        "\\bDouble\\b", "\\bFloat\\b", "\\bThread\\b", "\\bRandom\\b", "\\bhashCode\\b", "\\bString\\.", "\\bordinal\\b",
        "\\bvar\\b", "instanceof", "\\b(Byte|Short|Character|Boolean|Object|Objects|Collections|Class)\\b", "[^\\x00-\\x7f]",
        "static (?!final|int|boolean|long|class)\\w+ \\w+ *[=;]", "for \\(;;", "while \\(true",
    };

    public static void main(String[] args) throws IOException {
        face();
        source(Files.readString(Path.of("src/main/java/ZeroParts.java")));
        Check.finish();
    }

    private static void face() {
        List<String> found = new ArrayList<>();
        List<String> names = new ArrayList<>();
        for (Method method : ZeroParts.class.getDeclaredMethods()) {
            if (Modifier.isPublic(method.getModifiers())) {
                found.add(textOf(method));
                names.add(method.getName());
            }
        }
        for (Method method : ZeroParts.class.getDeclaredMethods()) {
            boolean isPublic = Modifier.isPublic(method.getModifiers());
            Check.same(method + " is public or private", isPublic || Modifier.isPrivate(method.getModifiers()) ? 1 : 0, 1);
            Check.same(method + " bears a name of its own", !isPublic && names.contains(method.getName()) ? 1 : 0, 0);
        }
        List<String> due = new ArrayList<>(Arrays.asList(FACE));
        Collections.sort(found);
        Collections.sort(due);
        Check.sameText("the public methods", found.toString(), due.toString());
        Check.same("the class is public and final", ZeroParts.class.getModifiers(), Modifier.PUBLIC | Modifier.FINAL);
        Constructor<?>[] constructors = ZeroParts.class.getDeclaredConstructors();
        Check.same("constructors", constructors.length, 1);
        Check.sameText("the constructor", constructors[0].toString(), "public ZeroParts()");
        for (Field field : ZeroParts.class.getDeclaredFields()) {
            boolean isPrivate = Modifier.isPrivate(field.getModifiers());
            Check.same(field + " is private, or NONE", isPrivate || field.getName().equals("NONE") ? 1 : 0, 1);
            boolean fits = !Modifier.isStatic(field.getModifiers()) || Modifier.isFinal(field.getModifiers());
            Check.same(field + " is no static state", fits ? 1 : 0, 1);
        }
    }

    private static String textOf(Method method) {
        StringBuilder text = new StringBuilder();
        String inputs = Arrays.toString(method.getParameterTypes()).replace('[', '(').replace(']', ')');
        text.append(method.getReturnType()).append(' ').append(method.getName()).append(inputs);
        for (Class<?> exception : method.getExceptionTypes()) {
            text.append(' ').append(exception.getSimpleName());
        }
        return text.toString();
    }

    private static void source(String source) {
        String code = source.replaceAll("(?s)/\\*.*?\\*/", "").replaceAll("//[^\n]*", "");
        for (String pattern : LEFT_OUT) {
            Matcher matcher = Pattern.compile(pattern).matcher(code);
            Check.sameText("what LANGUAGE.md leaves out", matcher.find() ? matcher.group() : "", "");
        }
        Matcher thrown = Pattern.compile("throw (?!new (IllegalArgument|IllegalState|IndexOutOfBounds)Exception\\(\"[^\"]*\"\\);)").matcher(code);
        Check.same("a throw that rule 6 leaves out", thrown.find() ? 1 : 0, 0);
        methodLengths(source);
    }

    /** A method goes from its head to the next closing brace with the same indentation. */
    private static void methodLengths(String source) {
        String[] lines = source.split("\n");
        for (int k = 0; k < lines.length; k++) {
            String indent = lines[k].replaceAll("\\S.*", "");
            boolean head = lines[k].matches(" {4,8}\\w.*\\).*\\{") || lines[k].matches(" {8,12}throws .*\\{");
            if (head && !lines[k].contains("class ")) {
                String closing = (lines[k].contains(" throws ") && indent.length() > 8 ? "    " : indent) + "}";
                int end = k;
                while (end < lines.length && !lines[end].equals(closing)) {
                    end++;
                }
                Check.same("line " + (k + 1) + ": a method of over 60 lines", end - k > 60 ? 1 : 0, 0);
            }
        }
    }
}
