/** Promise 2: letter. */
final class Promise02LetterTest {
    public static void main(String[] args) {
        Desk d = new Desk();
        Check.argument("letter(31)", () -> d.x().letter(31));
        Check.argument("letter(127)", () -> d.x().letter(127));
        Check.argument("letter(-1)", () -> d.x().letter(-1));
        Check.argument("letter of the least int", () -> d.x().letter(Integer.MIN_VALUE));
        Check.argument("letter(65536 + 97)", () -> d.x().letter(65536 + 97));
        Check.same("nothing came", d.x().about(0), 0);
        Check.same("letter(32)", d.x().letter(32), 1);
        Check.same("letter(126)", d.x().letter(126), 2);
        Check.same("letter(65)", d.x().letter(65), 3);
        Check.same("the length", d.x().about(0), 3);
        full();
        Check.end();
    }

    private static void full() {
        Desk d = new Desk();
        for (int i = 1; i <= 39; i++) {
            d.x().letter(' ');
        }
        Check.same("the 40th", d.x().letter('7'), 40);
        Check.state("the 41st", () -> d.x().letter('8'));
        Check.argument("a wrong one on a full text", () -> d.x().letter(10));
        Check.same("the length stays", d.x().about(0), 40);
        Check.same("the full text is read", d.ran(d.x().parse(), -1), "7");
        Check.same("the first of the next text", d.x().letter('1'), 1);
    }
}
