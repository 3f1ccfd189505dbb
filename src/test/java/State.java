import java.util.Arrays;

/** A group, a sequence and its parts, and two ways to bring a new object to them. */
final class State {
    private final int a;
    private final int b;
    private final int[] elements;
    private final int[] parts;

    private State(int a, int b, int[] elements) {
        this.a = a;
        this.b = b;
        this.elements = elements;
        this.parts = new int[elements.length];
    }

    static State of(int a, int b, int... elements) {
        return new State(a, b, elements);
    }

    /** So often the same element. */
    static State times(int a, int b, int element, int times) {
        int[] row = new int[times];
        Arrays.fill(row, element);
        return new State(a, b, row);
    }

    State laid(int... newParts) {
        System.arraycopy(newParts, 0, parts, 0, newParts.length);
        return this;
    }

    /** How many calls byCalls makes, each of which saves a state. */
    int calls() {
        int calls = 1 + elements.length;
        for (int part : parts) {
            calls += part != 0 ? 1 : 0;
        }
        return calls;
    }

    /** By one call after the other, so that the undo stack is full from four calls on. */
    ZeroParts byCalls() {
        ZeroParts z = new ZeroParts();
        z.begin(a, b);
        for (int element : elements) {
            z.add(element);
        }
        for (int place = 0; place < parts.length; place++) {
            if (parts[place] != 0) {
                z.lay(place, parts[place]);
            }
        }
        return z;
    }

    /** By a command text, which stays there, so that one state is on the undo stack. */
    ZeroParts byRun() {
        StringBuilder text = new StringBuilder("group " + a + " " + b + ";");
        for (int element : elements) {
            text.append("add ").append(element).append(';');
        }
        for (int place = 0; place < parts.length; place++) {
            if (parts[place] != 0) {
                text.append("lay ").append(place).append(' ').append(parts[place]).append(';');
            }
        }
        ZeroParts z = new ZeroParts();
        Answers.type(z, text.toString());
        z.runCommands();
        return z;
    }
}
