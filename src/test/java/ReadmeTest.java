/** What README.md tells of how the class is used: its two examples, and each row of its tables of errors and failures. */
final class ReadmeTest {
    public static void main(String[] args) {
        firstExample();
        secondExample();
        codesOfNames();
        errors();
        failures();
        Check.end();
    }

    private static int read(PhraseDesk x, String text) {
        for (char c : text.toCharArray()) {
            x.letter(c);
        }
        return x.parse();
    }

    private static void firstExample() {
        PhraseDesk x = new PhraseDesk();
        Check.same("class", x.type(PhraseDesk.NONE), 0);
        Check.same("fields", x.field(0, 1, 2), 1);
        Check.same("object", x.make(0), 0);
        int program = read(x, "a = 1 + 2 * 3");
        Check.same("program", program, 0);
        Check.same("failure", x.run(program, 0), 0);
        Check.same("kind", x.result(0), 2);
        Check.same("value", x.result(1), 7);
    }

    private static void secondExample() {
        PhraseDesk y = new PhraseDesk();
        y.type(PhraseDesk.NONE);
        y.field(0, 20, 4);
        y.method(0, 6, 2, 0, 1, 0);
        y.make(0);
        int call = read(y, "f('12')");
        Check.same("the first program", call, 0);
        Check.same("f without a converter", y.run(call, 0), 8);
        Check.same("the converter to INT was there", y.converter(4, 2, true) ? 1 : 0, 0);
        Check.same("f with a converter", y.run(call, 0), 0);
        Check.same("its kind", y.result(0), 2);
        Check.same("its value", y.result(1), 12);
        Check.same("put without a converter", y.put(0, 20), 6);
        Check.same("the converter to TEXT was there", y.converter(2, 4, true) ? 1 : 0, 0);
        Check.same("put with a converter", y.put(0, 20), 0);
        Check.same("the latest result is still an INT", y.keep(24), 2);
        int join = read(y, "t + #x");
        Check.same("the second program", join, 1);
        Check.same("it runs", y.run(join, 0), 0);
        Check.same("a TEXT", y.result(0), 4);
        Check.same("its length", y.result(1), 4);
        int[] due = {'1', '2', '1', '2', PhraseDesk.NONE};
        for (int i = 0; i < due.length; i++) {
            Check.same("its character " + i, y.text(i), due[i]);
        }
        Check.same("variables", y.about(4), 1);
        Check.same("error 2 at the end of the text", read(y, "t + "), -2004);
    }

    private static void codesOfNames() {
        Check.same("code of a", Desk.code("a"), 1);
        Check.same("code of z", Desk.code("z"), 26);
        Check.same("code of aa", Desk.code("aa"), 28);
        Desk d = new Desk();
        Check.same("a value for aa", d.value("#aa = 5"), "5");
        Check.same("28 is aa", d.x().keep(28), 2);
        Check.same("so there is one variable", d.x().about(4), 1);
    }

    private static void errors() {
        Check.same("no token", Desk.parsed("1 + ;"), -1004);
        Check.same("too long a token", Desk.parsed("1 + 1234567"), -1004);
        Check.same("a token that does not fit", Desk.parsed("1 + )"), -2004);
        Check.same("too deep a choice", Desk.parsed("(((((1)))))"), -3005);
        Check.same("the point behind a REAL", Desk.parsed("1.5.5"), -2004);
    }

    private static Desk desk() {
        Desk d = new Desk().type(PhraseDesk.NONE).field(0, "n", Desk.INT);
        return d.method(0, "g", Desk.INT, 0, 0, 1).method(0, "g", Desk.BOOL, 0, 0, 2).make(0);
    }

    private static void fails(Desk d, String text, int failure) {
        Check.same(text, d.value(text, 0), "failure " + failure);
    }

    private static void failures() {
        Desk d = desk();
        fails(d, "1 && true", 1);
        fails(d, "1 / 0", 2);
        fails(d, "1 % 0", 2);
        fails(d, "999999.0 * 999999 * 10", 3);
        fails(d, "null.a", 4);
        fails(d, "null.f()", 4);
        fails(d, "(1/0).a = 1", 4);
        fails(d, "a", 5);
        fails(d, "1.f()", 5);
        fails(d, "n = 'x'", 6);
        fails(d, "g('x')", 8);
        fails(d, "'12345678' + '12345678' + 1", 9);
        d.converter(Desk.TEXT, Desk.INT);
        fails(d, "n = 'x'", 10);
        fails(d, "g('x')", 10);
        d.converter(Desk.TEXT, Desk.BOOL);
        fails(d, "g('x')", 7);
        for (int i = 1; i <= 12; i++) {
            d.x().keep(i);
        }
        fails(d, "#m = 1", 11);
    }
}
