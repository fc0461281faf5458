/** The bounds in the promises 1 to 14: what each call takes and refuses, and that a refused call changes nothing. */
final class BoundsOfCallsTest {
    private static final int LEAST = Integer.MIN_VALUE;
    private static final int MOST = Integer.MAX_VALUE;
    private static final int LAST_NAME = 14348906;

    public static void main(String[] args) {
        newObject();
        letter();
        letterOnAFullText();
        parse();
        parseWithFortyPrograms();
        type();
        fieldArguments();
        fieldStates();
        fieldOfAnObjectsClass();
        methodArguments();
        methodTypes();
        methodStates();
        make();
        converterArguments();
        converterAnswers();
        convertersApart();
        run();
        keepArguments();
        keepStates();
        result();
        text();
        putArguments();
        putAnswers();
        about();
        argumentsAheadOfStates();
        call512();
        Check.end();
    }

    /** Promise 1: "No classes, objects, programs, converters; an empty text; the latest result is NULL." */
    private static void newObject() {
        Check.same("a new object", new Desk().told(), "0 0 0 0 0 0 null");
        Desk d = new Desk();
        Check.same("NONE", PhraseDesk.NONE, -1);
        Check.same("no character", d.x().text(0), -1);
        Check.same("an empty text", d.x().parse(), -2000);
        Check.argument(d, "no class for make", () -> d.x().make(0));
        Check.argument(d, "no class for type", () -> d.x().type(0));
        Check.argument(d, "no class for field", () -> d.x().field(0, 1, 1));
        Check.argument(d, "no class for method", () -> d.x().method(0, 1, 0, 0, 0, 0));
        Check.argument(d, "no program", () -> d.x().run(0, -1));
        Check.argument(d, "no object", () -> d.x().put(0, 1));
        Check.same("the latest result", d.x().keep(1), 0);
    }

    /** Promise 2: "answers how long it is. IllegalArgumentException: c is not 32 .. 126." */
    private static void letter() {
        Desk d = new Desk().write("1");
        for (int c : new int[] {LEAST, -97, -1, 0, 10, 31, 127, 128, 255, 256 + 97, 65536 + 97, MOST}) {
            Check.argument(d, "letter(" + c + ")", () -> d.x().letter(c));
        }
        Check.same("letter(33)", d.x().letter(33), 2);
        Check.same("letter(125)", d.x().letter(125), 3);
        Check.same("letter(126)", d.x().letter(126), 4);
        Check.same("letter(32)", d.x().letter(32), 5);
        Check.same("what came", d.x().parse(), -1002);
    }

    /** "IllegalStateException: it has 40." */
    private static void letterOnAFullText() {
        Desk d = new Desk();
        for (int i = 1; i <= 38; i++) {
            Check.same("a space", d.x().letter(' '), i);
        }
        Check.same("the 39th", d.x().letter('4'), 39);
        Check.same("the 40th", d.x().letter('2'), 40);
        Check.state(d, "a 41st", () -> d.x().letter('7'));
        Check.state(d, "a 41st space", () -> d.x().letter(32));
        Check.state(d, "a 41st ~", () -> d.x().letter(126));
        Check.same("the text is as it was", d.ran(d.x().parse(), -1), "42");
        Check.same("a letter then", d.x().letter('7'), 1);
        for (int i = 2; i <= 40; i++) {
            Check.same("a letter", d.x().letter(' '), i);
        }
        Check.state(d, "a 41st again", () -> d.x().letter('7'));
        Check.same("read again", d.ran(d.x().parse(), -1), "7");
    }

    /** Promise 3: "The text is read, and empty then. Answers the program's number, or -1000 * error - place." */
    private static void parse() {
        Desk d = new Desk();
        int[] due = {-2000, -1000, -2001, -1001, -3005};
        String[] wrong = {"", "$", "1)", "1$", "(((((1"};
        for (int i = 0; i < wrong.length; i++) {
            Check.same("parse of " + wrong[i], d.parse(wrong[i]), due[i]);
            Check.same("the text is empty", d.x().about(0), 0);
            Check.same("no program", d.x().about(1), 0);
        }
        Check.argument(d, "a wrong text made none", () -> d.x().run(0, -1));
        Check.same("the first", d.parse("11"), 0);
        Check.same("the text is empty", d.x().about(0), 0);
        Check.same("a wrong text between", d.parse("11 11"), -2003);
        Check.same("the second", d.parse("12"), 1);
        Check.same("it is the text alone", d.ran(1, -1) + d.ran(0, -1), "1211");
        Check.same("the result stays when a text is read", d.parse("13") + d.latest(), "211");
    }

    /** "IllegalStateException: there are 40 programs (the text stays)." */
    private static void parseWithFortyPrograms() {
        Desk d = new Desk();
        for (int i = 0; i < 39; i++) {
            Check.same("a program", d.parse("" + i), i);
        }
        Check.same("a wrong one with 39", d.parse("$"), -1000);
        Check.same("the 40th", d.parse("39"), 39);
        Check.same("programs", d.x().about(1), 40);
        d.write("5");
        Check.state(d, "a 41st", () -> d.x().parse());
        Check.same("the text stays", d.x().about(0), 1);
        Check.same("it goes on", d.x().letter(' '), 2);
        d.write("$");
        Check.state(d, "a wrong 41st", () -> d.x().parse());
        Check.same("that stays too", d.x().about(0), 3);
        Check.argument(d, "run of a 41st", () -> d.x().run(40, -1));
        for (int i = 0; i < 40; i++) {
            Check.same("a program runs", d.ran(i, -1), "" + i);
        }
    }

    /** Promise 4: "parent is neither NONE nor a class"; "there are 5". */
    private static void type() {
        for (int classes = 0; classes <= 5; classes++) {
            Desk d = new Desk();
            for (int c = 0; c < classes; c++) {
                Check.same("a class below the one ahead", d.x().type(c - 1), c);
                Check.same("classes", d.x().about(2), c + 1);
            }
            for (int parent : new int[] {LEAST, -2, classes, classes + 1, 6, MOST}) {
                Check.argument(d, "type(" + parent + ")", () -> d.x().type(parent));
            }
        }
        Desk d = new Desk();
        for (int c = 0; c < 5; c++) {
            Check.same("a class without a parent", d.x().type(-1), c);
        }
        for (int parent = -1; parent <= 4; parent++) {
            int above = parent;
            Check.state(d, "a sixth below " + above, () -> d.x().type(above));
        }
        Check.argument(d, "an object of a sixth", () -> d.x().make(5));
        Check.same("an object of the fifth", d.x().make(4), 0);
    }

    /** Promise 5: "there is no such class, name is not 1 .. 14348906, type is not 1 .. 5 or 8 + a class." */
    private static void fieldArguments() {
        Desk d = new Desk().type(-1).type(-1);
        for (int c : new int[] {LEAST, -1, 2, 5, 8, MOST}) {
            Check.argument(d, "class " + c, () -> d.x().field(c, 1, 1));
        }
        for (int name : new int[] {LEAST, -1, 0, LAST_NAME + 1, MOST}) {
            Check.argument(d, "name " + name, () -> d.x().field(0, name, 1));
        }
        for (int type : new int[] {LEAST, -1, 0, 6, 7, 10, 11, 12, 13, MOST}) {
            Check.argument(d, "type " + type, () -> d.x().field(0, 1, type));
        }
        int[] types = {1, 2, 4, 5, 8, 9};
        int[] names = {1, 2, LAST_NAME - 1, LAST_NAME, 26, 27};
        for (int i = 0; i < 6; i++) {
            Check.same("a field of type " + types[i], d.x().field(1, names[i], types[i]), i + 1);
        }
        Check.same("of the other class", d.x().field(0, 1, 3), 1);
        d.type(0);
        Check.same("type 10 with a third class", d.x().field(0, 2, 10), 2);
    }

    /** "IllegalStateException: it has 6, or one of that name, or there is an object." */
    private static void fieldStates() {
        Desk d = new Desk().type(-1).type(0);
        for (int i = 1; i <= 6; i++) {
            Check.same("a field", d.x().field(0, i, i == 6 ? 8 : i), i);
            for (int again = 1; again <= i; again++) {
                int name = again;
                Check.state(d, "field " + name + " again", () -> d.x().field(0, name, 5));
            }
        }
        Check.state(d, "a seventh", () -> d.x().field(0, 7, 1));
        Desk e = new Desk().type(-1).type(0);
        Check.same("of the parent", e.x().field(0, 1, 2), 1);
        Check.same("of that name again, below", e.x().field(1, 1, 4), 1);
        Check.state(e, "of that name again", () -> e.x().field(1, 1, 4));
        Check.same("the refused one does not count", e.x().field(1, 2, 5), 2);
        for (int i = 3; i <= 6; i++) {
            Check.same("up to six", e.x().field(1, i, 5), i);
        }
        Check.state(e, "a seventh below", () -> e.x().field(1, 7, 5));
        Check.same("the parent's count", e.x().field(0, 7, 5), 2);
        e.make(1);
        Check.same("the first type stays", e.value("a=1", 0) + e.value("a='x'", 0), "failure 6'x'");
        Check.same("the seventh is none", e.value("g", 0), "null");
        Check.same("the seventh of the other", d.make(0).value("g", 0), "failure 5");
    }

    /** "or there is an object": of whatever class, and the refused field is none of any object made then. */
    private static void fieldOfAnObjectsClass() {
        Desk d = new Desk().type(-1).type(0).type(-1).field(0, "a", Desk.INT).make(1);
        for (int c = 0; c <= 2; c++) {
            int of = c;
            Check.state(d, "a field of class " + of, () -> d.x().field(of, 2, 1));
            Check.state(d, "a field again of class " + of, () -> d.x().field(of, 1, 1));
        }
        d.type(-1).make(0).make(1).make(2).make(3);
        Check.state(d, "a field of a class made behind it", () -> d.x().field(3, 2, 1));
        for (int root = 0; root < 5; root++) {
            Check.same("it has no such field", d.value("b", root), "failure 5");
            Check.same("it has that of before", d.value("a", root), root < 3 ? "null" : "failure 5");
        }
    }

    /** Promise 6: "there is no such class, name or action (0 .. 5), or type." */
    private static void methodArguments() {
        Desk d = new Desk().type(-1).type(-1);
        for (int c : new int[] {LEAST, -1, 2, 5, 8, MOST}) {
            Check.argument(d, "class " + c, () -> d.x().method(c, 1, 0, 0, 0, 0));
        }
        for (int name : new int[] {LEAST, -1, 0, LAST_NAME + 1, MOST}) {
            Check.argument(d, "name " + name, () -> d.x().method(0, name, 0, 0, 0, 0));
        }
        for (int action : new int[] {LEAST, -1, 6, 7, MOST}) {
            Check.argument(d, "action " + action, () -> d.x().method(0, 1, 0, 0, action, 0));
        }
        int[] names = {1, 2, 26, 27, LAST_NAME - 1, LAST_NAME};
        int[] numbers = {LEAST, -1, 0, 1, LAST_NAME + 1, MOST};
        for (int i = 0; i < 6; i++) {
            Check.same("action " + i, d.x().method(1, names[i], 0, 0, i, numbers[i]), i + 1);
        }
        Check.same("none of those refused", d.x().method(0, 1, 0, 0, 0, 0), 1);
    }

    /** "its parameter types are one and two (0: none; two is 0 if one is)". */
    private static void methodTypes() {
        int[] good = {1, 2, 3, 4, 5, 8, 9};
        Desk d = new Desk().type(-1).type(-1);
        for (int type : new int[] {LEAST, -1, 6, 7, 10, 11, 12, 13, MOST}) {
            Check.argument(d, "first " + type, () -> d.x().method(0, 1, type, 0, 0, 0));
            Check.argument(d, "first of two " + type, () -> d.x().method(0, 1, type, 1, 0, 0));
            Check.argument(d, "second " + type, () -> d.x().method(0, 1, 1, type, 0, 0));
        }
        for (int type : good) {
            Check.argument(d, "only a second " + type, () -> d.x().method(0, 1, 0, type, 0, 0));
        }
        for (int type : good) {
            Desk e = new Desk().type(-1).type(-1);
            Check.same("first " + type, e.x().method(0, 1, type, 0, 0, 0), 1);
            Check.same("second " + type, e.x().method(0, 1, 5, type, 0, 0), 2);
            Check.same("both " + type, e.x().method(0, 1, type, type, 0, 0), 3);
            Check.same("none", e.x().method(0, 1, 0, 0, 0, 0), 4);
        }
    }

    /** "Answers how many methods class c has then"; "IllegalStateException: it has 6." */
    private static void methodStates() {
        Desk d = new Desk().type(-1).type(0).make(1).make(0);
        for (int c = 0; c <= 1; c++) {
            int of = c;
            for (int i = 1; i <= 6; i++) {
                Check.same("a method", d.x().method(of, 10 * of + i, 0, 0, 0, i), i);
            }
            Check.state(d, "a seventh", () -> d.x().method(of, 7, 0, 0, 0, 7));
            Check.state(d, "one of the six again", () -> d.x().method(of, 10 * of + 6, 0, 0, 0, 8));
        }
        Check.same("the seventh is none", d.value("g()", 0) + d.value("g()", 1), "failure 8failure 8");
        Check.same("the sixth stays", d.value("p()", 0) + d.value("f()", 0) + d.value("f()", 1), "666");
        Desk e = new Desk().type(-1).make(0);
        for (int i = 1; i <= 6; i++) {
            Check.same("the same method again", e.x().method(0, 1, 0, 0, 0, i), i);
        }
        Check.state(e, "the same a seventh time", () -> e.x().method(0, 1, 0, 0, 0, 7));
        Check.same("the first of them", e.value("a()", 0), "1");
    }

    /** Promise 7: "answers its number"; "there is no such class"; "there are 30." */
    private static void make() {
        Desk d = new Desk().type(-1).type(0);
        for (int c : new int[] {LEAST, -1, 2, 3, 8, MOST}) {
            Check.argument(d, "make(" + c + ")", () -> d.x().make(c));
        }
        for (int i = 0; i < 30; i++) {
            Check.same("an object", d.x().make(i % 2), i);
            Check.same("objects", d.x().about(3), i + 1);
        }
        Check.state(d, "a 31st", () -> d.x().make(0));
        Check.state(d, "a 31st of the other class", () -> d.x().make(1));
        int program = d.parse("1");
        Check.argument(d, "run with object 30", () -> d.x().run(program, 30));
        Check.argument(d, "put into object 30", () -> d.x().put(30, 1));
        Check.same("run with object 29", d.x().run(program, 29), 0);
        Check.same("put into object 29", d.x().put(29, 1), 5);
    }

    /** Promise 8: "from is not 1 .. 5 or 8 .. 12, to is not 1 .. 4, or both are the same." */
    private static void converterArguments() {
        Desk d = new Desk();
        for (int from : new int[] {LEAST, -1, 0, 6, 7, 13, 14, MOST}) {
            for (int to = 1; to <= 4; to++) {
                int aim = to;
                Check.argument("from " + from + " to " + aim, () -> d.x().converter(from, aim, true));
                Check.argument("from " + from + " to " + aim, () -> d.x().converter(from, aim, false));
            }
        }
        for (int to : new int[] {LEAST, -1, 0, 5, 6, 7, 8, 9, 12, 13, MOST}) {
            for (int from : new int[] {1, 2, 3, 4, 5, 8, 12}) {
                Check.argument("from " + from + " to " + to, () -> d.x().converter(from, to, true));
            }
        }
        for (int both = 1; both <= 12; both++) {
            int same = both;
            Check.argument("from " + same + " to itself", () -> d.x().converter(same, same, true));
        }
        for (int from = 1; from <= 12; from++) {
            for (int to = 1; to <= 4; to++) {
                if (from != to && from != 6 && from != 7) {
                    Check.same("none came", d.x().converter(from, to, true) ? 1 : 0, 0);
                }
            }
        }
    }

    /** "is there from now on, or not. Answers whether it was": of each alone, also of classes that are not made. */
    private static void converterAnswers() {
        for (int from : new int[] {1, 2, 3, 4, 5, 8, 9, 10, 11, 12}) {
            Desk d = new Desk();
            for (int to = 1; to <= 4; to++) {
                if (to != from) {
                    Check.same("taken ahead of all", d.x().converter(from, to, false) ? 1 : 0, 0);
                    Check.same("it was not there", d.x().converter(from, to, true) ? 1 : 0, 0);
                    Check.same("it was there", d.x().converter(from, to, true) ? 1 : 0, 1);
                    Check.same("it was there still", d.x().converter(from, to, false) ? 1 : 0, 1);
                    Check.same("it was gone", d.x().converter(from, to, false) ? 1 : 0, 0);
                    Check.same("it was gone still", d.x().converter(from, to, true) ? 1 : 0, 0);
                }
            }
        }
    }

    /** One converter alone is there when it came alone. */
    private static void convertersApart() {
        for (int from : new int[] {1, 2, 3, 4, 5, 8, 9, 10, 11, 12}) {
            for (int to = 1; to <= 4; to++) {
                if (to != from) {
                    Desk d = new Desk().converter(from, to);
                    Check.same("others than " + from + " to " + to, others(d, from, to), 0);
                    Check.same("itself", d.x().converter(from, to, false) ? 1 : 0, 1);
                }
            }
        }
    }

    private static int others(Desk d, int from, int to) {
        int count = 0;
        for (int a : new int[] {1, 2, 3, 4, 5, 8, 9, 10, 11, 12}) {
            for (int b = 1; b <= 4; b++) {
                if (a != b && (a != from || b != to) && d.x().converter(a, b, false)) {
                    count++;
                }
            }
        }
        return count;
    }

    /** Promise 9: "there is no such program or object"; "the result is the value then (NULL if it failed)". */
    private static void run() {
        Desk d = new Desk().type(-1).make(0).make(0);
        d.parse("5");
        d.parse("#v=6");
        d.parse("1/0");
        Check.same("run(0, NONE)", d.x().run(0, PhraseDesk.NONE), 0);
        for (int program : new int[] {LEAST, -2, -1, 3, 4, 40, MOST}) {
            Check.argument(d, "program " + program, () -> d.x().run(program, -1));
            Check.argument(d, "program " + program + " with object 0", () -> d.x().run(program, 0));
        }
        for (int root : new int[] {LEAST, -3, -2, 2, 3, 30, MOST}) {
            Check.argument(d, "root " + root, () -> d.x().run(1, root));
        }
        Check.same("the result stays", d.latest(), "5");
        Check.same("nothing was set", d.x().about(4), 0);
        Check.same("run(1, 1)", d.x().run(1, 1), 0);
        Check.same("the result", d.latest(), "6");
        Check.same("run(2, 0)", d.x().run(2, 0), 2);
        Check.same("the result of a failure", d.told(), "0 3 1 2 1 0 null");
        Check.argument(d, "a refused run behind a failure", () -> d.x().run(3, 0));
        Check.same("no failure stays", d.x().run(0, 0), 0);
    }

    /** Promise 10: "name is not 1 .. 14348906". */
    private static void keepArguments() {
        Desk d = new Desk();
        d.value("5");
        for (int name : new int[] {LEAST, -1, 0, LAST_NAME + 1, MOST}) {
            Check.argument(d, "keep(" + name + ")", () -> d.x().keep(name));
        }
        Check.same("none got a value", d.x().about(4), 0);
        Check.same("keep(1)", d.x().keep(1), 2);
        Check.same("keep of the last", d.x().keep(LAST_NAME), 2);
        Check.same("the result stays", d.latest(), "5");
        Check.same("both", d.value("#a") + d.value("#zzzzz"), "55");
        Check.same("two got a value", d.x().about(4), 2);
        Check.same("keep(27)", d.x().keep(27) + d.x().keep(27), 4);
        Check.same("three", d.x().about(4), 3);
    }

    /** "there are 12 others that ever got a value. (Those that got one by = in a program count too ...)" */
    private static void keepStates() {
        for (int bySet = 0; bySet <= 12; bySet++) {
            Desk d = new Desk();
            for (int i = 0; i < 12; i++) {
                String name = "" + (char) ('a' + i);
                if (i < bySet) {
                    Check.same("by =", d.value("#" + name + "=" + i), "" + i);
                } else {
                    d.value("" + i);
                    Check.same("by keep", d.x().keep(Desk.code(name)), 2);
                }
                Check.same("variables", d.x().about(4), i + 1);
            }
            d.value("null");
            Check.state(d, "a 13th", () -> d.x().keep(13));
            Check.state(d, "the last name as a 13th", () -> d.x().keep(LAST_NAME));
            Check.same("one of the 12", d.x().keep(12) + d.x().keep(1), 0);
            Check.same("a 13th by =", d.value("#m=5"), "failure 11");
            Check.same("the 13th", d.value("#m"), "null");
            Check.same("both are NULL", d.value("#l") + d.value("#a"), "nullnull");
            Check.same("the others", d.value("#b") + d.value("#k"), "110");
            Check.same("12 with NULL too", d.x().about(4), 12);
            Check.state(d, "a 13th though two are NULL", () -> d.x().keep(13));
        }
    }

    /** Promise 11: "what 0 ... 1 ... 2 ...: NONE for another what. (An INT may be -1.)" */
    private static void result() {
        String[] texts = {"null", "true", "7", "-1", "2.5", "'abc'", "65536*32768", "-0.001", "''", "false", "me()"};
        int[] kinds = {0, 1, 2, 2, 3, 4, 2, 3, 4, 1, 12};
        int[] ones = {0, 1, 7, -1, 2, 3, LEAST, 0, 0, 0, 1};
        int[] twos = {0, 0, 0, 0, 2500, 0, 0, -1, 0, 0, 0};
        Desk d = new Desk().type(-1).type(0).type(1).type(2).type(3).method(4, "me", 0, 0, 4, 0).make(4).make(4);
        for (int i = 0; i < texts.length; i++) {
            d.value(texts[i], 1);
            Check.same("result(0) of " + texts[i], d.x().result(0), kinds[i]);
            Check.same("result(1) of " + texts[i], d.x().result(1), ones[i]);
            Check.same("result(2) of " + texts[i], d.x().result(2), twos[i]);
            for (int what : new int[] {LEAST, -2, -1, 3, 4, MOST}) {
                Check.same("result(" + what + ")", d.x().result(what), -1);
            }
        }
        realsAtTheBoundsOfInts();
    }

    /** "a REAL as (int)"; "(int) (1000.0 * it)". */
    private static void realsAtTheBoundsOfInts() {
        String[] texts = {
            "65536*32767.0+65535", "65536*32767.0+65536", "65536*-32768.0", "65536*-32768.0-1", "100000*10.0*1000*1000",
            "2147*1000.0+483", "2147*1000.0+484", "-2147*1000.0-484", "-999999.999", "0.001/2", "1.999"
        };
        int[] ones = {MOST, MOST, LEAST, LEAST, MOST, 2147483, 2147484, -2147484, -999999, 0, 1};
        int[] twos = {MOST, MOST, LEAST, LEAST, MOST, 2147483000, MOST, LEAST, -999999999, 0, 1999};
        for (int i = 0; i < texts.length; i++) {
            Desk d = new Desk();
            d.value(texts[i]);
            Check.same("result(1) of " + texts[i], d.x().result(1), ones[i]);
            Check.same("result(2) of " + texts[i], d.x().result(2), twos[i]);
        }
    }

    /** Promise 12: "Character i of the latest result, if that is a TEXT; NONE when there is none." */
    private static void text() {
        Desk d = new Desk().type(-1).method(0, "me", 0, 0, 4, 0).make(0);
        d.value("'a'");
        Check.same("its first", d.x().text(0), 'a');
        Check.same("behind its last", d.x().text(1), -1);
        d.value("'12345678'+' bcdefg~'");
        String chars = "12345678 bcdefg~";
        for (int i = 0; i < 16; i++) {
            Check.same("character " + i, d.x().text(i), chars.charAt(i));
        }
        for (int i : new int[] {LEAST, -2, -1, 16, 17, MOST}) {
            Check.same("character " + i, d.x().text(i), -1);
        }
        for (String other : new String[] {"''", "null", "true", "123", "1.5", "me()", "1/0"}) {
            d.value(other, 0);
            for (int i : new int[] {-1, 0, 1}) {
                Check.same("character " + i + " of " + other, d.x().text(i), -1);
            }
        }
    }

    /** Promise 13: "there is no such object"; a name that no field has is failure 5. */
    private static void putArguments() {
        Desk d = new Desk().type(-1).type(-1).field(0, "a", Desk.ANY).make(0).make(1);
        d.value("5");
        for (int o : new int[] {LEAST, -2, -1, 2, 3, 30, MOST}) {
            Check.argument(d, "put(" + o + ", 1)", () -> d.x().put(o, 1));
        }
        for (int name : new int[] {LEAST, -1, 0, 2, LAST_NAME, LAST_NAME + 1, MOST}) {
            Check.same("put(0, " + name + ")", d.x().put(0, name), 5);
        }
        Check.same("no such field of its class", d.x().put(1, 1), 5);
        Check.same("it stays NULL", d.value("a", 0), "null");
        d.value("5");
        Check.same("put(0, 1)", d.x().put(0, 1), 0);
        Check.same("it is set", d.value("a", 0), "5");
    }

    /** "(the latest result stays as it is); answers 0 or the failure (5, 6 or 10)". */
    private static void putAnswers() {
        Desk d = new Desk().type(-1).type(0).field(0, "i", Desk.INT).field(0, "t", Desk.TEXT).field(1, "i", Desk.REAL);
        d.make(0).make(1).converter(Desk.TEXT, Desk.INT).converter(Desk.INT, Desk.REAL);
        put(d, "7", 0, "i", 0, "7");
        put(d, "8", 1, "i", 0, "real 8000");
        put(d, "'12'", 0, "i", 0, "12");
        put(d, "'x'", 0, "i", 10, "12");
        put(d, "1.5", 0, "i", 6, "12");
        put(d, "null", 0, "i", 6, "12");
        put(d, "'y'", 1, "t", 0, "'y'");
        put(d, "true", 1, "t", 6, "'y'");
        put(d, "null", 1, "t", 0, "null");
        put(d, "'9'", 1, "i", 6, "real 8000");
        put(d, "1/0", 0, "t", 0, "null");
        put(d, "3", 0, "u", 5, "failure 5");
        Desk e = new Desk().type(-1).field(0, "a", Desk.INT).make(0);
        e.value("1");
        e.x().put(0, 1);
        Check.same("a failing put", e.value("'x'") + e.x().put(0, 1), "'x'6");
        Check.same("a run behind it", e.value("a", 0), "1");
    }

    private static void put(Desk d, String value, int o, String name, int due, String then) {
        d.value(value);
        String before = d.told();
        Check.same("put of " + value + " as " + name, d.x().put(o, Desk.code(name)), due);
        Check.same("what the desk tells", d.told(), before);
        Check.same("the field " + name, d.value(name, o), then);
    }

    /** Promise 14: "what 0 ... 4"; "NONE for another what." */
    private static void about() {
        Desk d = new Desk();
        for (int what : new int[] {LEAST, -2, -1, 5, 6, MOST}) {
            Check.same("about(" + what + ")", d.x().about(what), -1);
        }
        d.type(-1).type(-1).make(0).make(0).make(0).value("#a=1");
        d.parse("1$");
        for (int i = 0; i < 4; i++) {
            d.parse("" + i);
        }
        d.write("12345678");
        d.x().keep(2);
        int[] due = {8, 5, 2, 3, 2};
        for (int what = 0; what <= 4; what++) {
            Check.same("about(" + what + ")", d.x().about(what), due[what]);
        }
        for (int what : new int[] {LEAST, -1, 5, MOST}) {
            Check.same("about(" + what + ")", d.x().about(what), -1);
        }
    }

    /** A wrong argument is an IllegalArgumentException also where the state would refuse the call. */
    private static void argumentsAheadOfStates() {
        Desk d = new Desk().type(-1).type(-1).type(-1).type(-1).type(-1);
        for (int i = 0; i < 6; i++) {
            d.x().field(0, i + 1, 1);
            d.x().method(0, i + 1, 0, 0, 0, 0);
        }
        for (int i = 0; i < 30; i++) {
            d.make(0);
        }
        for (int i = 1; i <= 12; i++) {
            d.x().keep(i);
        }
        for (int i = 0; i < 40; i++) {
            d.x().letter(' ');
        }
        Check.argument(d, "letter", () -> d.x().letter(31));
        Check.argument(d, "type", () -> d.x().type(5));
        Check.argument(d, "field's class", () -> d.x().field(5, 1, 1));
        Check.argument(d, "field's name", () -> d.x().field(0, 0, 1));
        Check.argument(d, "field's type", () -> d.x().field(0, 1, 13));
        Check.argument(d, "method's class", () -> d.x().method(5, 1, 0, 0, 0, 0));
        Check.argument(d, "method's name", () -> d.x().method(0, 0, 0, 0, 0, 0));
        Check.argument(d, "method's action", () -> d.x().method(0, 1, 0, 0, 6, 0));
        Check.argument(d, "method's first type", () -> d.x().method(0, 1, 13, 0, 0, 0));
        Check.argument(d, "method's second type", () -> d.x().method(0, 1, 0, 1, 0, 0));
        Check.argument(d, "make", () -> d.x().make(5));
        Check.argument(d, "keep", () -> d.x().keep(LAST_NAME + 1));
    }

    /** "An object is used for at most 512 calls": the last of them answers as all the others do. */
    private static void call512() {
        PhraseDesk x = new PhraseDesk();
        x.letter('1');
        x.parse();
        x.run(0, PhraseDesk.NONE);
        x.keep(Desk.code("n"));
        for (char c : "#n=#n+1".toCharArray()) {
            x.letter(c);
        }
        x.parse();
        for (int call = 13; call <= 511; call++) {
            Check.same("call " + call, x.run(1, PhraseDesk.NONE), 0);
        }
        Check.same("call 512", x.result(1), 500);
    }
}
