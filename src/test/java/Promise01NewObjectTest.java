/** Promise 1: a new object has no classes, objects, programs and converters, no text, and NULL as its result. */
final class Promise01NewObjectTest {
    public static void main(String[] args) {
        Desk d = new Desk();
        for (int what = 0; what <= 4; what++) {
            Check.same("about(" + what + ") of a new object", d.x().about(what), 0);
        }
        for (int what = 0; what <= 2; what++) {
            Check.same("result(" + what + ") of a new object", d.x().result(what), 0);
        }
        Check.same("text(0) of a new object", d.x().text(0), -1);
        Check.same("the constant", PhraseDesk.NONE, -1);
        Check.argument("make without a class", () -> d.x().make(0));
        Check.argument("run without a program", () -> d.x().run(0, -1));
        Check.argument("put without an object", () -> d.x().put(0, 1));
        noConverters();
        nothingShared();
        Check.end();
    }

    private static void noConverters() {
        Desk d = new Desk();
        for (int from = 1; from <= 12; from++) {
            for (int to = 1; to <= 4; to++) {
                if (from != to && from != 6 && from != 7) {
                    Check.same("converter " + from + " to " + to, d.x().converter(from, to, false) ? 1 : 0, 0);
                }
            }
        }
    }

    private static void nothingShared() {
        Desk a = new Desk().type(-1).make(0).converter(1, 2);
        Check.same("a value of the one", a.value("#v=1"), "1");
        Desk b = new Desk();
        Check.same("classes of the other", b.x().about(2), 0);
        Check.same("objects of the other", b.x().about(3), 0);
        Check.same("a variable of the other", b.value("#v"), "null");
        Check.same("a converter of the other", b.x().converter(1, 2, true) ? 1 : 0, 0);
    }
}
