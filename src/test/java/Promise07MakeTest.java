/** Promise 7: make. */
final class Promise07MakeTest {
    public static void main(String[] args) {
        Desk d = new Desk();
        Check.argument("no class", () -> d.x().make(0));
        d.type(-1).type(0).field(1, "a", 2);
        Check.argument("class -1", () -> d.x().make(-1));
        Check.argument("class 2", () -> d.x().make(2));
        for (int i = 0; i < 30; i++) {
            Check.same("an object", d.x().make(i % 2), i);
            Check.same("objects", d.x().about(3), i + 1);
        }
        Check.state("a 31st", () -> d.x().make(0));
        Check.argument("a wrong class comes first", () -> d.x().make(2));
        Check.same("objects stay", d.x().about(3), 30);
        int set = d.parse("a=5");
        Check.same("of a class with the field", d.ran(set, 29), "5");
        Check.same("of a class without", d.ran(set, 28), "failure 5");
        Check.same("another object's stays", d.value("a", 27), "null");
        Check.end();
    }
}
