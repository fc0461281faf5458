/** The bounds of how a method is FOUND, of weights, of which converter is there, and of what CONVERTERS make. */
final class BoundsOfMethodsTest {
    public static void main(String[] args) {
        asManyParameters();
        thirtyCandidates();
        sameTypesAsAnEarlier();
        methodsOfTheClassFirst();
        exactGoesAheadOfClose();
        weightOfAny();
        weightOfSteps();
        weightOfNull();
        noneSeveralOne();
        leftArgumentFirst();
        convertersUpTheClasses();
        convertersOfOtherKinds();
        convertersOfNull();
        textsToInt();
        textsToBool();
        realsToInt();
        objectsToOthers();
        ofItsOwnKind();
        Check.end();
    }

    private static Desk five() {
        return new Desk().type(-1).type(0).type(1).type(2).type(3).method(0, "me", 0, 0, 4, 0);
    }

    /** "the methods with the name and as many parameters". */
    private static void asManyParameters() {
        Desk d = new Desk().type(-1);
        d.method(0, "f", 0, 0, 0, 10).method(0, "f", 5, 0, 0, 11).method(0, "f", 5, 5, 0, 12);
        d.method(0, "g", 0, 0, 0, 20).method(0, "h", 5, 0, 0, 21).method(0, "i", 5, 5, 0, 22).make(0);
        Check.same("f()", d.value("f()", 0), "10");
        Check.same("f(null)", d.value("f(null)", 0), "11");
        Check.same("f(null,null)", d.value("f(null,null)", 0), "12");
        Check.same("g()", d.value("g()", 0) + d.value("g(1)", 0) + d.value("g(1,2)", 0), "20failure 8failure 8");
        Check.same("h(1)", d.value("h()", 0) + d.value("h(1)", 0) + d.value("h(1,2)", 0), "failure 821failure 8");
        Check.same("i(1,2)", d.value("i()", 0) + d.value("i(1)", 0) + d.value("i(1,2)", 0), "failure 8failure 822");
        Check.same("no name", d.value("j()", 0) + d.value("fa()", 0), "failure 8failure 8");
    }

    /** Six methods of each of five classes: all thirty are candidates, up to the last one of the last ancestor. */
    private static void thirtyCandidates() {
        int[] types = {1, 2, 3, 4, 8};
        Desk d = new Desk().type(-1).type(0).type(1).type(2).type(3);
        for (int i = 0; i < 25; i++) {
            int action = i == 0 ? 4 : 0;
            int count = d.x().method(4 - i / 6, Desk.code("m"), types[i / 5], types[i % 5], action, i);
            Check.same("methods", count, i % 6 + 1);
        }
        d.method(0, "m", 1, 9, 0, 25).method(0, "m", 2, 9, 0, 26).method(0, "m", 3, 9, 0, 27);
        d.method(0, "m", 9, 9, 0, 28).method(0, "m", 12, 12, 0, 29).make(4).make(4);
        Check.same("the first, with action 4", d.value("#o=m(true,true)", 1), "object 1 of 4");
        String[] values = {"true", "1", "1.5", "'x'"};
        for (int i = 1; i < 16; i++) {
            String call = "m(" + values[i / 4] + "," + values[i % 4] + ")";
            Check.same(call, d.value(call, 0), "" + (i / 4 * 5 + i % 4));
        }
        Check.same("the 30th, exact", d.value("m(#o,#o)", 0), "29");
        Check.same("the 28th, close", d.value("m(1.5,#o)", 0), "27");
        Check.same("the 23rd, close", d.value("m(#o,1.5)", 0), "22");
    }

    /** "but not those whose parameter types are the same as those of an earlier candidate". */
    private static void sameTypesAsAnEarlier() {
        Desk d = new Desk().type(-1).type(0);
        d.method(0, "f", 2, 4, 0, 1).method(1, "f", 2, 4, 0, 2).method(1, "f", 2, 4, 0, 3).method(0, "f", 4, 2, 0, 4);
        d.method(0, "f", 2, 4, 0, 5).method(1, "g", 2, 0, 0, 6).method(0, "g", 2, 0, 0, 7).make(1).make(0);
        d.converter(Desk.BOOL, Desk.INT);
        Check.same("the first of the class", d.value("f(1,'x')", 0), "2");
        Check.same("of the parent's objects", d.value("f(1,'x')", 1), "1");
        Check.same("other order of types", d.value("f('x',1)", 0), "4");
        Check.same("those left out are not several", d.value("f(true,'x')", 0), "2");
        Check.same("nor with one parameter", d.value("g(true)", 0), "6");
        Check.same("of the parent's objects", d.value("g(true)", 1), "7");
    }

    /** "of the class, in the order in which they were made, then of its parent, and so on". */
    private static void methodsOfTheClassFirst() {
        Desk d = five().method(0, "f", Desk.TEXT, 0, 0, 1).method(0, "f", 8, 0, 0, 2);
        d.method(1, "f", 9, 0, 0, 3).method(1, "f", Desk.ANY, 0, 0, 4).method(3, "f", 10, 0, 0, 5);
        d.make(0).make(1).make(2).make(3).make(4);
        String[] due = {"1", "3", "3", "5", "5"};
        for (int root = 0; root < 5; root++) {
            Check.same("f(null) of object " + root, d.value("f(null)", root), due[root]);
        }
    }

    /** "EXACT: all arguments' kinds are the parameters' types: the first such one. Else CLOSE". */
    private static void exactGoesAheadOfClose() {
        Desk d = new Desk().type(-1).type(0).method(0, "me", 0, 0, 4, 0);
        d.method(1, "f", 8, 5, 0, 1).method(1, "f", 5, 2, 0, 2).method(1, "f", 9, 3, 0, 3).method(0, "f", 9, 2, 0, 4);
        d.method(1, "g", 8, 0, 0, 5).method(0, "g", 9, 0, 0, 6).make(1).make(0);
        d.value("#o=me()", 0);
        d.value("#p=me()", 1);
        Check.same("all exact, the last", d.value("f(#o,2)", 0), "4");
        Check.same("another exact one", d.value("f(#o,2.0)", 0), "3");
        Check.same("0 and 16 is as much as 16 and 0", d.value("f(#p,2)", 0), "1");
        Check.same("16 and 0 is less than 2 and 16", d.value("f(#o,'x')", 0), "1");
        Check.same("an object, exact", d.value("g(#o)", 0), "6");
        Check.same("its parent, exact", d.value("g(#p)", 0), "5");
        Check.same("no REAL fits INT", d.value("f('x',2.0)", 0), "failure 8");
    }

    /** "16 for ANY": as much as four steps of both arguments, more than three and four, less than five would be. */
    private static void weightOfAny() {
        Desk d = five().method(4, "f", 5, 12, 0, 1).method(4, "f", 8, 8, 0, 2);
        d.method(4, "g", 8, 8, 0, 1).method(4, "g", 5, 12, 0, 2);
        d.method(3, "h", 5, 12, 0, 1).method(3, "h", 9, 8, 0, 2);
        d.method(3, "i", 5, 11, 0, 1).method(3, "i", 8, 8, 0, 2);
        d.method(3, "j", 8, 8, 0, 1).method(3, "j", 5, 11, 0, 2).make(4);
        d.value("#o=me()", 0);
        Check.same("16 and 0 is as much as 8 and 8", d.value("f(#o,#o)", 0), "1");
        Check.same("8 and 8 is as much as 16 and 0", d.value("g(#o,#o)", 0), "1");
        Check.same("16 and 0 is more than 6 and 8", d.value("h(#o,#o)", 0), "2");
        Check.same("16 and 2 is more than 8 and 8", d.value("i(#o,#o)", 0), "2");
        Check.same("8 and 8 is less than 16 and 2", d.value("j(#o,#o)", 0), "1");
        Desk e = five().method(4, "f", 5, 5, 0, 1).method(4, "f", 5, 8, 0, 2).method(4, "f", 8, 5, 0, 3).make(4);
        Check.same("16 and 16 is more than 16 and 8", e.value("f(me(),me())", 0), "2");
        Check.same("16 and 0 of an INT", e.value("f(1,me())", 0), "2");
        Check.same("8 and 16 of an INT", e.value("f(me(),1)", 0), "3");
        Check.same("16 and 16 of INTs", e.value("f(1,1)", 0), "1");
    }

    /** "2 for each step from a class up to an ancestor"; "the one with the least WEIGHT, of several the first". */
    private static void weightOfSteps() {
        for (int step = 0; step < 4; step++) {
            Desk d = five().method(0, "f", 8 + step, 0, 0, 1).method(0, "f", 9 + step, 0, 0, 2).make(4).make(step);
            d.method(1, "g", 9 + step, 0, 0, 3).method(0, "g", 8 + step, 0, 0, 4);
            Check.same("the nearer one behind", d.value("f(me())", 0), "2");
            Check.same("the nearer one ahead", d.value("g(me())", 0), "3");
            Check.same("the only one that fits", d.value("f(me())", 1), "1");
        }
        Desk d = five().method(4, "f", 12, 10, 0, 1).method(4, "f", 11, 11, 0, 2);
        d.method(4, "g", 11, 11, 0, 1).method(4, "g", 12, 10, 0, 2).method(3, "h", 12, 9, 0, 1);
        d.method(3, "h", 11, 11, 0, 2).method(3, "i", 11, 10, 0, 1).method(3, "i", 12, 10, 0, 2).make(4);
        d.value("#o=me()", 0);
        Check.same("0 and 4 is as much as 2 and 2", d.value("f(#o,#o)", 0), "1");
        Check.same("2 and 2 is as much as 0 and 4", d.value("g(#o,#o)", 0), "1");
        Check.same("0 and 6 is more than 2 and 2", d.value("h(#o,#o)", 0), "2");
        Check.same("2 and 4 is more than 0 and 4", d.value("i(#o,#o)", 0), "2");
    }

    /** "0 if its kind is the type or it is NULL", also where the type is ANY. */
    private static void weightOfNull() {
        Desk d = five().method(4, "f", 5, 0, 0, 1).method(4, "f", 4, 0, 0, 2).method(4, "f", 8, 0, 0, 3);
        d.method(3, "g", 8, 0, 0, 1).method(3, "g", 5, 0, 0, 2).method(3, "h", 2, 0, 0, 1).method(3, "h", 5, 0, 0, 2);
        d.method(2, "i", 5, 9, 0, 1).method(2, "i", 8, 10, 0, 2).make(4);
        Check.same("ANY, the first", d.value("f(null)", 0), "1");
        Check.same("a class, the first", d.value("g(null)", 0), "1");
        Check.same("it fits no INT", d.value("h(null)", 0), "2");
        Check.same("6 is more than 4", d.value("i(null,me())", 0), "2");
        Check.same("a TEXT", d.value("f('x')", 0), "2");
    }

    /** "Else those for which each argument fits or can be converted: none: ...; several: ...; one: that." */
    private static void noneSeveralOne() {
        Desk d = new Desk().type(-1).method(0, "f", 2, 0, 1, 0).method(0, "f", 3, 0, 1, 0).method(0, "f", 4, 0, 1, 0);
        d.method(0, "g", 2, 3, 2, 0).method(0, "g", 3, 2, 2, 0).make(0);
        int one = d.parse("f(true)");
        int two = d.parse("g(true,false)");
        Check.same("none", d.ran(one, 0) + d.ran(two, 0), "failure 8failure 8");
        d.converter(Desk.BOOL, Desk.REAL);
        Check.same("one", d.ran(one, 0), "real 1000");
        Check.same("none for both arguments", d.ran(two, 0), "failure 8");
        d.converter(Desk.BOOL, Desk.INT);
        Check.same("two", d.ran(one, 0) + d.ran(two, 0), "failure 7failure 7");
        d.converter(Desk.BOOL, Desk.TEXT);
        Check.same("three", d.ran(one, 0), "failure 7");
        d.x().converter(Desk.BOOL, Desk.REAL, false);
        Check.same("two again", d.ran(one, 0), "failure 7");
        Check.same("none again", d.ran(two, 0), "failure 8");
        d.x().converter(Desk.BOOL, Desk.INT, false);
        Check.same("one again", d.ran(one, 0), "'true'");
        d.x().converter(Desk.BOOL, Desk.TEXT, false);
        Check.same("none at the end", d.ran(one, 0), "failure 8");
        d.converter(Desk.ANY, Desk.INT).converter(Desk.ANY, Desk.REAL);
        Check.same("from ANY", d.ran(one, 0) + d.ran(two, 0), "failure 7failure 7");
        Check.same("what is exact is not several", d.value("f(7)", 0) + d.value("f(1.5)", 0), "7real 1500");
        Check.same("nor what is close", d.value("f(null)", 0), "null");
        Check.same("one fits and one is converted", d.value("g(2,true)", 0), "failure 7");
    }

    /** "Then the arguments are made fit, from left to right." */
    private static void leftArgumentFirst() {
        Desk d = new Desk().type(-1).make(0);
        d.method(0, "f", 2, 4, 3, 0).method(0, "g", 2, 1, 2, 0).method(0, "h", 1, 2, 1, 0);
        d.converter(Desk.TEXT, Desk.INT).converter(Desk.INT, Desk.TEXT).converter(Desk.TEXT, Desk.BOOL);
        Check.same("both are made fit", d.value("f('7',8)", 0), "'78'");
        Check.same("the left alone", d.value("f('7','8')", 0), "'78'");
        Check.same("the right alone", d.value("f(7,8)", 0), "'78'");
        Check.same("the left is not as said", d.value("f('x',8)", 0), "failure 10");
        Check.same("the right is not as said", d.value("g('1','x')", 0), "failure 10");
        Check.same("the right though it is not used", d.value("h('true','x')", 0), "failure 10");
        Check.same("the left though it is not used", d.value("g('x','true')", 0), "failure 10");
        Check.same("both are as said", d.value("g('1','true')", 0) + d.value("h('false','0')", 0), "truefalse");
    }

    /** "the converters from its kind, (of an object) from each ancestor, the parent first, and from ANY". */
    private static void convertersUpTheClasses() {
        Desk e = five().field(0, "a", Desk.INT).method(0, "f", Desk.INT, 0, 1, 0);
        for (int i = 0; i < 5; i++) {
            e.make(i);
        }
        int set = e.parse("a=me()");
        int call = e.parse("f(me())");
        for (int from : new int[] {8, 9, 10, 11, 12, Desk.ANY}) {
            e.x().converter(from, Desk.INT, true);
            for (int root = 0; root < 5; root++) {
                boolean there = from == Desk.ANY || 8 + root >= from;
                Check.same("set of " + root + " from " + from, e.ran(set, root), there ? "" + root : "failure 6");
                Check.same("call of " + root + " from " + from, e.ran(call, root), there ? "" + root : "failure 8");
            }
            e.x().converter(from, Desk.INT, false);
        }
        e.converter(12, Desk.REAL).converter(8, Desk.TEXT).converter(Desk.ANY, Desk.BOOL);
        Check.same("none to the type", e.ran(set, 4) + e.ran(call, 4), "failure 6failure 8");
    }

    /** Of a value that is no object, from its kind and from ANY alone, and to the type alone. */
    private static void convertersOfOtherKinds() {
        String[] values = {"true", "2", "2.5", "'1'"};
        String[] toInt = {"1", "2", "2", "1"};
        for (int kind = 1; kind <= 4; kind++) {
            if (kind != Desk.INT) {
                Desk d = new Desk().type(-1).field(0, "a", Desk.INT).make(0);
                int set = d.parse("a=" + values[kind - 1]);
                for (int from : new int[] {1, 3, 4, 5, 8, 9, 12}) {
                    d.x().converter(from, Desk.INT, true);
                    String due = from == kind || from == Desk.ANY ? toInt[kind - 1] : "failure 6";
                    Check.same("kind " + kind + " from " + from, d.ran(set, 0), due);
                    d.x().converter(from, Desk.INT, false);
                }
            }
        }
        Desk d = new Desk().type(-1).field(0, "o", 8).make(0).converter(Desk.ANY, 1).converter(Desk.ANY, 2);
        d.converter(Desk.ANY, 3).converter(Desk.ANY, 4);
        Check.same("none to a class", d.value("o=1", 0) + d.value("o='o0'", 0), "failure 6failure 6");
    }

    /** "(of NULL from ANY alone)". */
    private static void convertersOfNull() {
        String[] due = {"false", "0", "real 0"};
        for (int type = 1; type <= 3; type++) {
            Desk d = new Desk().type(-1).field(0, "a", type).method(0, "f", type, 0, 1, 0).make(0);
            int set = d.parse("a=null");
            int call = d.parse("f(null)");
            for (int from : new int[] {1, 2, 3, 4, 8, 9, 10, 11, 12}) {
                if (from != type) {
                    d.converter(from, type);
                }
            }
            Check.same("NULL to " + type, d.ran(set, 0) + d.ran(call, 0), "failure 6failure 8");
            d.converter(Desk.ANY, type);
            Check.same("NULL from ANY to a field of " + type, d.ran(set, 0), due[type - 1]);
            Check.same("NULL from ANY to a parameter of " + type, d.ran(call, 0), due[type - 1]);
        }
    }

    /** A value made fit for a field of that type. */
    private static void made(int type, String right, String due) {
        Desk d = new Desk().type(-1).field(0, "a", type).make(0).converter(Desk.ANY, type);
        Check.same("to type " + type + ": " + right, d.value("a=" + right, 0), due);
    }

    /** "a TEXT of an optional - and 1 to 9 digits"; "TEXTs that are not as said: failure 10". */
    private static void textsToInt() {
        String[] good = {"0", "9", "-0", "-1", "00", "12345678", "-1234567", "007"};
        int[] due = {0, 9, 0, -1, 0, 12345678, -1234567, 7};
        for (int i = 0; i < good.length; i++) {
            made(Desk.INT, "'" + good[i] + "'", "" + due[i]);
            made(Desk.REAL, "'" + good[i] + "'", "real " + (int) (1000.0 * due[i]));
        }
        made(Desk.INT, "'99999999'+9", "999999999");
        made(Desk.INT, "'-9999999'+99", "-999999999");
        made(Desk.INT, "'00000000'+0", "0");
        made(Desk.REAL, "'99999999'+9", "real 2147483647");
        String[] bad = {
            "", "-", "--", "--1", "1-", "+1", " 1", "1 ", "- 1", "1.5", ".", "x", "1x", "/", ":", "0:", "1/", "true"
        };
        for (String chars : bad) {
            made(Desk.INT, "'" + chars + "'", "failure 10");
            made(Desk.REAL, "'" + chars + "'", "failure 10");
        }
        made(Desk.INT, "'99999999'+99", "failure 10");
        made(Desk.INT, "'-9999999'+999", "failure 10");
        made(Desk.INT, "'00000000'+'00'", "failure 10");
        made(Desk.INT, "'12345678'+'12345678'", "failure 10");
        made(Desk.REAL, "'00000000'+'01'", "failure 10");
    }

    /** "true if it is not 0 as an INT or REAL; a TEXT true or false; an object: true; NULL: false". */
    private static void textsToBool() {
        made(Desk.BOOL, "'true'", "true");
        made(Desk.BOOL, "'false'", "false");
        String[] bad = {"", "0", "1", "tru", "truee", "fals", "falsee", "TRUE", "False", " true", "null"};
        for (String chars : bad) {
            made(Desk.BOOL, "'" + chars + "'", "failure 10");
        }
        made(Desk.BOOL, "0", "false");
        made(Desk.BOOL, "1", "true");
        made(Desk.BOOL, "-1", "true");
        made(Desk.BOOL, "65536*32768", "true");
        made(Desk.BOOL, "0.0", "false");
        made(Desk.BOOL, "-0.0", "false");
        made(Desk.BOOL, "0.001", "true");
        made(Desk.BOOL, "-0.001", "true");
        made(Desk.BOOL, "1.0", "true");
        made(Desk.BOOL, "null", "false");
    }

    /** "(int) of a REAL"; "a REAL as its (int), so". */
    private static void realsToInt() {
        String[] reals = {
            "0.999", "-0.999", "1.0", "-1.0", "-1.999", "65536*32767.0+65535", "65536*32767.0+65536", "65536*-32768.0",
            "65536*-32768.0-1"
        };
        int[] due = {0, 0, 1, -1, -1, Integer.MAX_VALUE, Integer.MAX_VALUE, Integer.MIN_VALUE, Integer.MIN_VALUE};
        for (int i = 0; i < reals.length; i++) {
            made(Desk.INT, reals[i], "" + due[i]);
            made(Desk.TEXT, reals[i], "'" + due[i] + "'");
        }
        made(Desk.TEXT, "65536*32768", "'-2147483648'");
        made(Desk.TEXT, "65536*32768-1", "'2147483647'");
        made(Desk.TEXT, "0", "'0'");
        made(Desk.TEXT, "-7", "'-7'");
        made(Desk.TEXT, "true", "'true'");
        made(Desk.TEXT, "false", "'false'");
        made(Desk.INT, "true", "1");
        made(Desk.INT, "false", "0");
        made(Desk.INT, "null", "0");
        made(Desk.REAL, "true", "real 1000");
        made(Desk.REAL, "false", "real 0");
        made(Desk.REAL, "null", "real 0");
        made(Desk.REAL, "-7", "real -7000");
        made(Desk.REAL, "65536*32768", "real -2147483648");
    }

    /** "an object: o and its number"; "an object's number"; "an object: true": of the first and of the last. */
    private static void objectsToOthers() {
        Desk d = new Desk().type(-1).field(0, "b", 1).field(0, "i", 2).field(0, "r", 3).field(0, "t", 4);
        d.method(0, "me", 0, 0, 4, 0);
        for (int to = 1; to <= 4; to++) {
            d.converter(8, to);
        }
        for (int i = 0; i < 30; i++) {
            d.make(0);
        }
        String[] fields = {"b", "i", "r", "t"};
        int[] roots = {0, 9, 10, 29};
        String[][] due = {
            {"true", "0", "real 0", "'o0'"}, {"true", "9", "real 9000", "'o9'"}, {"true", "10", "real 10000", "'o10'"},
            {"true", "29", "real 29000", "'o29'"}
        };
        for (int root = 0; root < roots.length; root++) {
            for (int i = 0; i < fields.length; i++) {
                Check.same(fields[i], d.value(fields[i] + "=me()", roots[root]), due[root][i]);
            }
        }
    }

    /** "(Of its own kind a value is as it is.)" */
    private static void ofItsOwnKind() {
        made(Desk.TEXT, "'x'", "'x'");
        made(Desk.TEXT, "''", "''");
        made(Desk.TEXT, "null", "null");
        made(Desk.REAL, "2.5", "real 2500");
        made(Desk.INT, "2", "2");
        made(Desk.BOOL, "false", "false");
    }
}
