/** A PhraseDesk under test, with whole texts instead of letters and with its values as words. */
final class Desk {
    static final int NULL = 0;
    static final int BOOL = 1;
    static final int INT = 2;
    static final int REAL = 3;
    static final int TEXT = 4;
    static final int ANY = 5;
    static final int NONE = PhraseDesk.NONE;

    private final PhraseDesk x = new PhraseDesk();
    private int calls = 0;

    /** The PhraseDesk for one call; what comes after 512 calls proves nothing, so a test must not get there. */
    PhraseDesk x() {
        calls++;
        if (calls > 512) {
            throw new IllegalStateException("a test made more than 512 calls of one object");
        }
        return x;
    }

    static int code(String name) {
        int code = 0;
        for (int i = 0; i < name.length(); i++) {
            code = code * 27 + (name.charAt(i) - 'a' + 1);
        }
        return code;
    }

    Desk write(String text) {
        for (int i = 0; i < text.length(); i++) {
            x().letter(text.charAt(i));
        }
        return this;
    }

    int parse(String text) {
        return write(text).x().parse();
    }

    /** What parse answers for the text on a new object. */
    static int parsed(String text) {
        return new Desk().parse(text);
    }

    Desk type(int parent) {
        x().type(parent);
        return this;
    }

    Desk field(int c, String name, int type) {
        x().field(c, code(name), type);
        return this;
    }

    Desk method(int c, String name, int one, int two, int action, int number) {
        x().method(c, code(name), one, two, action, number);
        return this;
    }

    Desk make(int c) {
        x().make(c);
        return this;
    }

    Desk converter(int from, int to) {
        x().converter(from, to, true);
        return this;
    }

    /** The value of a text with an object as root, or its failure or error, in words. */
    String value(String text, int root) {
        int program = parse(text);
        if (program < 0) {
            return "error " + program;
        }
        return ran(program, root);
    }

    String value(String text) {
        return value(text, NONE);
    }

    String ran(int program, int root) {
        int failure = x().run(program, root);
        return failure == 0 ? latest() : "failure " + failure;
    }

    /** The value of a text on a new object. */
    static String of(String text) {
        return new Desk().value(text);
    }

    String latest() {
        int kind = x().result(0);
        switch (kind) {
            case NULL:
                return "null";
            case BOOL:
                return x().result(1) == 1 ? "true" : "false";
            case INT:
                return "" + x().result(1);
            case REAL:
                return "real " + x().result(2);
            case TEXT:
                return "'" + chars() + "'";
            default:
                return "object " + x().result(1) + " of " + (kind - 8);
        }
    }

    /** All that the desk tells of its state: every about, every result and every character of the result. */
    String told() {
        StringBuilder told = new StringBuilder();
        for (int what = 0; what <= 4; what++) {
            told.append(x().about(what)).append(' ');
        }
        told.append(x().result(2)).append(' ').append(latest());
        return told.toString();
    }

    private String chars() {
        StringBuilder chars = new StringBuilder();
        for (int i = 0; i < x().result(1); i++) {
            chars.append((char) x().text(i));
        }
        return chars.toString();
    }
}
