/** Promise 8: converter, and what converters make of a value. */
final class Promise08ConverterTest {
    public static void main(String[] args) {
        wrongInputs();
        toText();
        toInt();
        toReal();
        toBool();
        whichIsUsed();
        Check.end();
    }

    private static void wrongInputs() {
        Desk d = new Desk();
        for (int from : new int[] {-1, 0, 6, 7, 13, Integer.MAX_VALUE, Integer.MIN_VALUE}) {
            Check.argument("from " + from, () -> d.x().converter(from, 1, true));
        }
        for (int to : new int[] {-1, 0, 5, 6, 8, 12, Integer.MAX_VALUE, Integer.MIN_VALUE}) {
            Check.argument("to " + to, () -> d.x().converter(1, to, true));
        }
        for (int same = 1; same <= 5; same++) {
            int both = same;
            Check.argument("from " + both + " to itself", () -> d.x().converter(both, both, true));
        }
        for (int from : new int[] {1, 2, 3, 4, 5, 8, 9, 10, 11, 12}) {
            int to = from == 4 ? 1 : 4;
            Check.same("was not there", d.x().converter(from, to, true) ? 1 : 0, 0);
            Check.same("is there", d.x().converter(from, to, true) ? 1 : 0, 1);
            Check.same("is there still", d.x().converter(from, to, false) ? 1 : 0, 1);
            Check.same("is gone", d.x().converter(from, to, false) ? 1 : 0, 0);
        }
    }

    /** An object with a field a of the type, to which everything can be converted. */
    private static Desk open(int type) {
        Desk d = new Desk().type(-1).field(0, "a", type).method(0, "me", 0, 0, 4, 0).make(0).make(0);
        return d.converter(Desk.ANY, type);
    }

    private static void made(int type, String right, int root, String due) {
        Check.same("to type " + type + ": " + right, open(type).value("a=" + right, root), due);
    }

    private static void toText() {
        made(Desk.TEXT, "true", 0, "'true'");
        made(Desk.TEXT, "false", 0, "'false'");
        made(Desk.TEXT, "120", 0, "'120'");
        made(Desk.TEXT, "-7", 0, "'-7'");
        made(Desk.TEXT, "2.9", 0, "'2'");
        made(Desk.TEXT, "-2.9", 0, "'-2'");
        made(Desk.TEXT, "999999.0*999999", 0, "'2147483647'");
        made(Desk.TEXT, "-999999.0*999999", 0, "'-2147483648'");
        made(Desk.TEXT, "null", 0, "null");
        made(Desk.TEXT, "me()", 1, "'o1'");
        made(Desk.TEXT, "'x'", 0, "'x'");
    }

    private static void toInt() {
        made(Desk.INT, "true", 0, "1");
        made(Desk.INT, "false", 0, "0");
        made(Desk.INT, "2.9", 0, "2");
        made(Desk.INT, "-2.9", 0, "-2");
        made(Desk.INT, "999999.0*999999", 0, "2147483647");
        made(Desk.INT, "null", 0, "0");
        made(Desk.INT, "me()", 1, "1");
        made(Desk.INT, "'0'", 0, "0");
        made(Desk.INT, "'007'", 0, "7");
        made(Desk.INT, "'-12'", 0, "-12");
        made(Desk.INT, "'-0'", 0, "0");
        made(Desk.INT, "'9999'+'99999'", 0, "999999999");
        made(Desk.INT, "'-9999'+'99999'", 0, "-999999999");
        made(Desk.INT, "'99999'+'99999'", 0, "failure 10");
        made(Desk.INT, "'-99999'+'99999'", 0, "failure 10");
        for (String wrong : new String[] {"''", "'-'", "'--1'", "'+1'", "'1-'", "' 1'", "'1.5'", "'a'", "'1:'", "'/1'"}) {
            made(Desk.INT, wrong, 0, "failure 10");
        }
    }

    private static void toReal() {
        made(Desk.REAL, "true", 0, "real 1000");
        made(Desk.REAL, "false", 0, "real 0");
        made(Desk.REAL, "-3", 0, "real -3000");
        made(Desk.REAL, "'-3'", 0, "real -3000");
        made(Desk.REAL, "'3.0'", 0, "failure 10");
        made(Desk.REAL, "null", 0, "real 0");
        made(Desk.REAL, "me()", 1, "real 1000");
        made(Desk.REAL, "2.5", 0, "real 2500");
    }

    private static void toBool() {
        made(Desk.BOOL, "0", 0, "false");
        made(Desk.BOOL, "-1", 0, "true");
        made(Desk.BOOL, "2", 0, "true");
        made(Desk.BOOL, "0.0", 0, "false");
        made(Desk.BOOL, "-0.0", 0, "false");
        made(Desk.BOOL, "0.001", 0, "true");
        made(Desk.BOOL, "'true'", 0, "true");
        made(Desk.BOOL, "'false'", 0, "false");
        made(Desk.BOOL, "'True'", 0, "failure 10");
        made(Desk.BOOL, "''", 0, "failure 10");
        made(Desk.BOOL, "'1'", 0, "failure 10");
        made(Desk.BOOL, "me()", 0, "true");
        made(Desk.BOOL, "null", 0, "false");
        made(Desk.BOOL, "true", 0, "true");
    }

    private static void whichIsUsed() {
        Desk d = new Desk().type(-1).type(0).type(1).type(-1).field(2, "a", Desk.INT).field(2, "b", 8);
        d.method(2, "me", 0, 0, 4, 0).make(2);
        int program = d.parse("a=me()");
        Check.same("no converter", d.ran(program, 0), "failure 6");
        Check.same("NULL without one", d.value("a=null", 0), "failure 6");
        for (int from : new int[] {8, 9, 10, Desk.ANY}) {
            d.x().converter(from, Desk.INT, true);
            Check.same("the converter from " + from, d.ran(program, 0), "0");
            d.x().converter(from, Desk.INT, false);
            Check.same("without it", d.ran(program, 0), "failure 6");
        }
        d.x().converter(11, Desk.INT, true);
        Check.same("a class that is no ancestor", d.ran(program, 0), "failure 6");
        d.x().converter(10, Desk.TEXT, true);
        Check.same("a converter to another type", d.ran(program, 0), "failure 6");
        d.x().converter(Desk.BOOL, Desk.INT, true);
        Check.same("of NULL none but from ANY", d.ran(1, 0), "failure 6");
        Check.same("none to a class", d.value("b=1", 0), "failure 6");
        Check.same("the BOOL", d.value("a=true", 0), "1");
        Check.same("not the REAL", d.value("a=1.0", 0), "failure 6");
    }
}
