/** Promise 11: result. */
final class Promise11ResultTest {
    public static void main(String[] args) {
        is("null", 0, 0, 0);
        is("true", 1, 1, 0);
        is("false", 1, 0, 0);
        is("17", 2, 17, 0);
        is("-1", 2, -1, 0);
        is("65536*32768", 2, Integer.MIN_VALUE, 0);
        is("2.75", 3, 2, 2750);
        is("-2.75", 3, -2, -2750);
        is("0.001", 3, 0, 1);
        is("1/3.0", 3, 0, 333);
        is("-2/3.0", 3, 0, -666);
        is("999999.0*9999", 3, Integer.MAX_VALUE, Integer.MAX_VALUE);
        is("-999999.0*9999", 3, Integer.MIN_VALUE, Integer.MIN_VALUE);
        is("999999.5", 3, 999999, 999999500);
        is("999999*5.0", 3, 4999995, Integer.MAX_VALUE);
        is("'abc'", 4, 3, 0);
        is("''", 4, 0, 0);
        is("1/0", 0, 0, 0);
        Desk d = new Desk().type(-1).type(-1).method(1, "me", 0, 0, 4, 0).make(0).make(1).make(1);
        d.value("me()", 2);
        Check.same("an object's kind", d.x().result(0), 9);
        Check.same("an object's number", d.x().result(1), 2);
        Check.same("no REAL", d.x().result(2), 0);
        for (int what : new int[] {-1, 3, Integer.MIN_VALUE, Integer.MAX_VALUE}) {
            Check.same("result(" + what + ")", d.x().result(what), -1);
        }
        Check.end();
    }

    private static void is(String text, int kind, int one, int two) {
        Desk d = new Desk();
        d.value(text);
        Check.same("the kind of " + text, d.x().result(0), kind);
        Check.same("result(1) of " + text, d.x().result(1), one);
        Check.same("result(2) of " + text, d.x().result(2), two);
    }
}
