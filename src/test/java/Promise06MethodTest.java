/** Promise 6: method, and which method a call means. */
final class Promise06MethodTest {
    public static void main(String[] args) {
        wrongInputs();
        exact();
        close();
        weights();
        converted();
        hidden();
        many();
        actions();
        Check.end();
    }

    private static void wrongInputs() {
        Desk d = new Desk();
        Check.argument("no class", () -> d.x().method(0, 1, 0, 0, 0, 0));
        d.type(-1);
        Check.argument("class 1", () -> d.x().method(1, 1, 0, 0, 0, 0));
        Check.argument("class -1", () -> d.x().method(-1, 1, 0, 0, 0, 0));
        Check.argument("name 0", () -> d.x().method(0, 0, 0, 0, 0, 0));
        Check.argument("name 14348907", () -> d.x().method(0, 14348907, 0, 0, 0, 0));
        Check.argument("action -1", () -> d.x().method(0, 1, 0, 0, -1, 0));
        Check.argument("action 6", () -> d.x().method(0, 1, 0, 0, 6, 0));
        Check.argument("only a second type", () -> d.x().method(0, 1, 0, 1, 0, 0));
        for (int type : new int[] {-1, 6, 7, 9, 13}) {
            Check.argument("first type " + type, () -> d.x().method(0, 1, type, 0, 0, 0));
            Check.argument("second type " + type, () -> d.x().method(0, 1, 1, type, 0, 0));
        }
        for (int i = 0; i < 6; i++) {
            Check.same("a method", d.x().method(0, 14348906, i, i == 0 ? 0 : 8, i, i), i + 1);
        }
        Check.state("a seventh", () -> d.x().method(0, 1, 0, 0, 0, 0));
        Check.argument("a wrong action comes first", () -> d.x().method(0, 1, 0, 0, 6, 0));
        d.make(0);
        d.type(0);
        Check.same("a method when there is an object", d.x().method(1, 1, 0, 0, 0, 0), 1);
    }

    private static Desk three() {
        return new Desk().type(-1).type(0).type(1);
    }

    private static void exact() {
        Desk d = three().method(0, "f", Desk.INT, 0, 0, 1).method(2, "f", Desk.ANY, 0, 0, 2);
        d.method(2, "f", Desk.REAL, 0, 0, 3).method(2, "g", Desk.TEXT, Desk.BOOL, 0, 4).make(2).make(1);
        Check.same("an exact one of an ancestor goes ahead", d.value("f(5)", 0), "1");
        Check.same("an exact REAL", d.value("f(5.0)", 0), "3");
        Check.same("else ANY", d.value("f('x')", 0), "2");
        Check.same("two exact", d.value("g('x',true)", 0), "4");
        Check.same("NULL is exact to nothing but fits", d.value("f(null)", 0), "2");
        Check.same("other order", d.value("g(true,'x')", 0), "failure 8");
        Check.same("another number of arguments", d.value("f()", 0) + d.value("f(1,2)", 0), "failure 8failure 8");
        Check.same("another name", d.value("h(1)", 0), "failure 8");
        Check.same("not those of a lower class", d.value("f('x')", 1), "failure 8");
        Check.same("a call with points", d.value("#o", 0) + d.value("f(1).f(2)", 0), "nullfailure 5");
    }

    private static void close() {
        Desk d = three().method(2, "f", 8, 0, 0, 1).method(2, "f", 9, 0, 0, 2).method(2, "f", Desk.ANY, 0, 0, 3);
        d.method(2, "me", 0, 0, 4, 0).make(2).make(1).make(0);
        d.x().run(d.parse("me()"), 0);
        d.x().keep(Desk.code("o"));
        Check.same("the nearest ancestor is closest", d.value("f(#o)", 0), "2");
        Check.same("of the same weight the first", d.value("f(null)", 0), "1");
        Check.same("a number", d.value("f(1)", 0), "3");
    }

    private static void weights() {
        Desk d = three().method(2, "me", 0, 0, 4, 0);
        d.method(2, "f", 8, 9, 0, 1).method(2, "f", 9, Desk.ANY, 0, 2);
        d.method(2, "g", 8, 9, 0, 1).method(2, "g", 9, 8, 0, 2).make(2);
        d.x().run(d.parse("me()"), 0);
        d.x().keep(Desk.code("o"));
        Check.same("4 and 2 is less than 2 and 16", d.value("f(#o,#o)", 0), "1");
        Check.same("4 and 0 is more than 2 and 0", d.value("f(#o,null)", 0), "2");
        Check.same("4 and 2 is as much as 2 and 4", d.value("g(#o,#o)", 0), "1");
        Desk e = new Desk().type(-1).type(0).type(1).type(2).type(3);
        e.method(4, "f", Desk.ANY, 8, 0, 1).method(4, "f", 8, Desk.ANY, 0, 2).method(4, "me", 0, 0, 4, 0);
        e.method(4, "g", Desk.ANY, Desk.ANY, 0, 3).method(4, "g", 8, 8, 0, 4).make(4);
        e.x().run(e.parse("me()"), 0);
        e.x().keep(Desk.code("o"));
        e.method(4, "s", 9, 9, 0, 5).method(3, "s", 12, 8, 0, 6).method(3, "s", 11, 8, 0, 7);
        e.method(3, "u", 11, 11, 0, 8).method(3, "u", 12, 10, 0, 9);
        Check.same("2 and 2 is as much as 0 and 4", e.value("u(#o,#o)", 0), "8");
        Check.same("6 and 6 is more than 0 and 8", e.value("s(#o,#o)", 0), "6");
        Check.same("16 and 8 is as much as 8 and 16", e.value("f(#o,#o)", 0), "1");
        Check.same("0 for NULL though it is ANY", e.value("f(null,#o)", 0), "1");
        Check.same("0 for the other NULL", e.value("f(#o,null)", 0), "2");
        Check.same("8 and 8 is less than 32", e.value("g(#o,#o)", 0), "4");
    }

    private static void converted() {
        Desk d = new Desk().type(-1).method(0, "h", Desk.BOOL, 0, 1, 0).method(0, "h", Desk.INT, 0, 1, 0);
        d.method(0, "k", Desk.INT, Desk.TEXT, 3, 0).make(0);
        Check.same("no converter", d.value("h('7')", 0), "failure 8");
        d.converter(Desk.TEXT, Desk.INT);
        Check.same("the one that can be converted", d.ran(0, 0), "7");
        d.converter(Desk.TEXT, Desk.BOOL);
        Check.same("two of them", d.ran(0, 0), "failure 7");
        Check.same("exact needs none", d.value("h(3)", 0), "3");
        d.x().converter(Desk.TEXT, Desk.BOOL, false);
        Check.same("a text that is not as said", d.value("h('7x')", 0), "failure 10");
        Check.same("one fits, one is converted", d.value("k('5','x')", 0), "'5x'");
        Check.same("one can't be", d.value("k('5',6)", 0), "failure 8");
        d.converter(Desk.INT, Desk.TEXT);
        Check.same("both are converted", d.value("k('5',6)", 0), "'56'");
        Check.same("the left one fails first", d.value("k('a',6)", 0), "failure 10");
        Check.same("NULL fits TEXT but not INT", d.value("k(null,null)", 0), "failure 8");
        d.converter(Desk.ANY, Desk.INT);
        Check.same("NULL comes from ANY", d.value("k(null,'x')", 0), "'0x'");
    }

    private static void many() {
        Desk d = new Desk().type(-1).method(0, "m", Desk.INT, Desk.INT, 0, 1).method(0, "m", Desk.INT, Desk.TEXT, 0, 2);
        d.method(0, "m", Desk.TEXT, Desk.INT, 0, 3).method(0, "m", Desk.TEXT, Desk.TEXT, 0, 4).make(0);
        Check.same("INT and INT", d.value("m(1,2)", 0), "1");
        Check.same("INT and TEXT", d.value("m(1,'2')", 0), "2");
        Check.same("TEXT and INT", d.value("m('1',2)", 0), "3");
        Check.same("TEXT and TEXT", d.value("m('1','2')", 0), "4");
        Check.same("NULL is a TEXT", d.value("m(1,null)", 0) + d.value("m(null,2)", 0), "23");
        Check.same("a BOOL is none", d.value("m(1,true)", 0) + d.value("m(true,2)", 0), "failure 8failure 8");
        Desk e = new Desk().type(-1).type(0).type(1).type(2).type(3);
        int[] types = {1, 2, 3, 4, 5};
        for (int i = 0; i < 25; i++) {
            e.method(4 - i / 5, "m", types[i % 5], types[i / 5], 0, i);
        }
        e.make(4);
        String[] values = {"true", "1", "1.5", "'x'", "m"};
        for (int i = 0; i < 20; i++) {
            String call = "m(" + values[i % 4] + "," + values[i / 5] + ")";
            Check.same(call, e.value(call, 0), "" + (i / 5 * 5 + i % 4));
        }
        e.method(0, "o", 0, 0, 4, 0);
        Check.same("the last of 25 candidates", e.value("m(o(),o())", 0), "24");
    }

    private static void hidden() {
        Desk d = three().method(0, "f", Desk.INT, 0, 0, 1).method(0, "f", Desk.INT, 0, 0, 2);
        d.method(1, "f", Desk.INT, 0, 0, 3).method(0, "g", 0, 0, 0, 4).method(1, "g", 0, 0, 0, 5);
        d.make(0).make(1).make(2).converter(Desk.TEXT, Desk.INT);
        Check.same("the earlier of the class", d.value("f(9)", 0), "1");
        Check.same("the child's hides the parent's", d.value("f(9)", 1), "3");
        Check.same("the parent's hides the grandparent's", d.value("f(9)", 2), "3");
        Check.same("hidden ones don't make it several", d.value("f('9')", 2), "3");
        Check.same("none without parameters", d.value("g()", 0) + d.ran(4, 2), "45");
    }

    private static void actions() {
        Desk d = new Desk().type(-1).field(0, "a", Desk.ANY).field(0, "len", Desk.INT);
        d.method(0, "f", Desk.ANY, Desk.ANY, 1, 9).method(0, "f", Desk.ANY, 0, 2, 9).method(0, "f", 0, 0, 1, 9);
        d.method(0, "g", Desk.ANY, Desk.ANY, 2, 9).method(0, "g", Desk.ANY, 0, 3, 9).method(0, "g", 0, 0, 3, 9);
        d.make(0);
        Check.same("1: the first", d.value("f(1,2)", 0), "1");
        Check.same("2 without a second", d.value("f(1)", 0), "null");
        Check.same("1 without a first", d.value("f()", 0), "null");
        Check.same("2: the second", d.value("g(1,2)", 0), "2");
        Check.same("3 with one", d.value("g(1)", 0), "failure 1");
        Check.same("3 with none", d.value("g()", 0), "failure 1");
        Desk e = new Desk().type(-1).field(0, "a", Desk.ANY).field(0, "len", Desk.INT).type(0);
        e.method(0, "p", Desk.ANY, Desk.ANY, 3, 0).method(0, "me", 0, 0, 4, 0).method(0, "n", 0, 0, 0, -12);
        e.method(0, "q", 0, 0, 5, Desk.code("a")).method(0, "l", 0, 0, 5, Desk.code("len"));
        e.method(0, "r", 0, 0, 5, -3).make(1);
        Check.same("3: what + gives", e.value("p('a',1)", 0), "'a1'");
        Check.same("3: what + fails with", e.value("p(true,1)", 0), "failure 1");
        Check.same("3: too long", e.value("p('12345678','12345678').p(1,1)", 0), "failure 5");
        Check.same("4: itself", e.value("me()", 0), "object 0 of 1");
        Check.same("0: its number", e.value("n()", 0), "-12");
        Check.same("5: a field", e.value("a='z'", 0) + e.value("q()", 0), "'z''z'");
        Check.same("5: a field called len", e.value("l()", 0), "null");
        Check.same("5: no field", e.value("r()", 0), "failure 5");
        Check.same("3: nothing too long", e.value("p('12345678','12345678')", 0), "'1234567812345678'");
        Check.same("3: a text too long", e.value("p('12345678'+'12345678',1)", 0), "failure 9");
    }
}
