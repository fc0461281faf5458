/** Promise 14: about. */
final class Promise14AboutTest {
    public static void main(String[] args) {
        Desk d = new Desk();
        is(d, "new", 0, 0, 0, 0, 0);
        d.write("1+");
        is(d, "two letters", 2, 0, 0, 0, 0);
        d.x().parse();
        is(d, "an error", 0, 0, 0, 0, 0);
        d.parse("#a=2");
        is(d, "a program", 0, 1, 0, 0, 0);
        d.x().run(0, -1);
        is(d, "a variable", 0, 1, 0, 0, 1);
        d.x().run(0, -1);
        is(d, "the same again", 0, 1, 0, 0, 1);
        d.type(-1).type(0);
        is(d, "two classes", 0, 1, 2, 0, 1);
        d.make(0).make(1).make(1);
        is(d, "three objects", 0, 1, 2, 3, 1);
        d.x().keep(2);
        is(d, "a second variable", 0, 1, 2, 3, 2);
        for (int what : new int[] {-1, 5, Integer.MIN_VALUE, Integer.MAX_VALUE}) {
            Check.same("about(" + what + ")", d.x().about(what), -1);
        }
        Check.end();
    }

    private static void is(Desk d, String when, int... due) {
        for (int what = 0; what < due.length; what++) {
            Check.same("about(" + what + ") " + when, d.x().about(what), due[what]);
        }
    }
}
