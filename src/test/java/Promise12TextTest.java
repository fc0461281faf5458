/** Promise 12: text. */
final class Promise12TextTest {
    public static void main(String[] args) {
        Desk d = new Desk();
        d.value("'a ~'");
        Check.same("the first", d.x().text(0), 'a');
        Check.same("the second", d.x().text(1), ' ');
        Check.same("the last", d.x().text(2), '~');
        for (int i : new int[] {3, 16, -1, Integer.MAX_VALUE, Integer.MIN_VALUE}) {
            Check.same("text(" + i + ")", d.x().text(i), -1);
        }
        d.value("'12345678'+'abcdefgh'");
        Check.same("the 16th", d.x().text(15), 'h');
        Check.same("the 9th", d.x().text(8), 'a');
        Check.same("the 17th", d.x().text(16), -1);
        for (String other : new String[] {"''", "1", "true", "null", "1.5", "1/0"}) {
            d.value(other);
            Check.same("text(0) of " + other, d.x().text(0), -1);
        }
        Desk e = new Desk().type(-1).method(0, "me", 0, 0, 4, 0).make(0);
        e.value("me()", 0);
        Check.same("text(0) of an object", e.x().text(0), -1);
        Check.end();
    }
}
