/** Promise 4: type. */
final class Promise04TypeTest {
    public static void main(String[] args) {
        Desk d = new Desk();
        Check.argument("a parent that is not there", () -> d.x().type(0));
        Check.argument("type(-2)", () -> d.x().type(-2));
        Check.argument("type of the greatest int", () -> d.x().type(Integer.MAX_VALUE));
        Check.same("a first class", d.x().type(-1), 0);
        Check.argument("a class as its own parent", () -> d.x().type(1));
        Check.same("a class with a parent", d.x().type(0), 1);
        Check.same("a second without", d.x().type(-1), 2);
        Check.same("one with an ancestor", d.x().type(1), 3);
        Check.same("classes", d.x().about(2), 4);
        Check.same("the fifth", d.x().type(3), 4);
        Check.state("a sixth", () -> d.x().type(-1));
        Check.state("a sixth with a parent", () -> d.x().type(4));
        Check.argument("a wrong parent comes first", () -> d.x().type(5));
        Check.same("classes stay", d.x().about(2), 5);
        ancestors();
        Check.end();
    }

    private static void ancestors() {
        Desk d = new Desk().type(-1).type(0).type(1).type(2).type(3);
        d.field(0, "a", Desk.INT).field(2, "b", 8).field(4, "c", 10).method(0, "f", 0, 0, 0, 5);
        d.make(4).make(1);
        Check.same("a field of the furthest ancestor", d.value("a=7", 0), "7");
        Check.same("a method of the furthest ancestor", d.value("f()", 0), "5");
        Check.same("an object fits an ancestor's type", d.value("b=#o?:#o", 0), "null");
        d.x().run(d.parse("#o"), 0);
        Check.same("a class after an object is refused by number alone", d.x().about(2), 5);
        Check.same("a lower class has not the field", d.value("c", 1), "failure 5");
    }
}
