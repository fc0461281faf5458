/** Promise 5: field. */
final class Promise05FieldTest {
    public static void main(String[] args) {
        wrongInputs();
        states();
        namesakes();
        allApart();
        Check.end();
    }

    /** Every field of an object and of its ancestors has a value of its own, and so has every object. */
    private static void allApart() {
        Desk d = new Desk().type(-1).type(0).type(1).type(2).type(3);
        for (int i = 0; i < 25; i++) {
            d.x().field(i / 5, i + 1, Desk.ANY);
        }
        d.make(4).make(4);
        d.value("#n=0");
        int next = d.parse("#n=#n+1");
        for (int i = 0; i < 50; i++) {
            d.x().run(next, -1);
            Check.same("put", d.x().put(i % 2, i / 2 + 1), 0);
        }
        for (int i = 0; i < 25; i++) {
            Check.same("field " + i, d.value("" + (char) ('a' + i), 1), "" + (2 * i + 2));
            Check.same("of the other", d.ran(i + 2, 0), "" + (2 * i + 1));
        }
    }

    private static void wrongInputs() {
        Desk d = new Desk();
        Check.argument("no class", () -> d.x().field(0, 1, 1));
        d.type(-1);
        Check.argument("class -1", () -> d.x().field(-1, 1, 1));
        Check.argument("class 1", () -> d.x().field(1, 1, 1));
        Check.argument("name 0", () -> d.x().field(0, 0, 1));
        Check.argument("name -5", () -> d.x().field(0, -5, 1));
        Check.argument("name 14348907", () -> d.x().field(0, 14348907, 1));
        for (int type : new int[] {-1, 0, 6, 7, 9, 12, 13, Integer.MAX_VALUE, Integer.MIN_VALUE}) {
            Check.argument("type " + type, () -> d.x().field(0, 1, type));
        }
        Check.same("the greatest name", d.x().field(0, 14348906, 8), 1);
        Check.same("the least name", d.x().field(0, 1, 5), 2);
        Check.same("a number that no letters make", d.x().field(0, 27, 1), 3);
    }

    private static void states() {
        Desk d = new Desk().type(-1).type(0);
        for (int i = 1; i <= 5; i++) {
            Check.same("field " + i, d.x().field(0, i, i), i);
        }
        Check.state("a name again", () -> d.x().field(0, 3, 1));
        Check.same("a sixth", d.x().field(0, 6, 9), 6);
        Check.state("a seventh", () -> d.x().field(0, 7, 1));
        Check.argument("a wrong type comes first", () -> d.x().field(0, 7, 10));
        Check.same("a name of the parent", d.x().field(1, 3, 1), 1);
        d.make(0);
        Check.state("a field when there is an object", () -> d.x().field(1, 4, 1));
        d.type(-1);
        Check.state("a field of a class made later", () -> d.x().field(2, 4, 1));
        Check.argument("a wrong name comes first", () -> d.x().field(2, 0, 1));
    }

    private static void namesakes() {
        Desk d = new Desk().type(-1).type(0).type(1);
        d.field(0, "a", Desk.TEXT).field(1, "a", Desk.INT).make(0).make(1).make(2);
        Check.same("the parent's own", d.value("a='x'", 0), "'x'");
        Check.same("the class's own is an INT", d.value("a='x'", 1), "failure 6");
        Check.same("the class's own", d.value("a=1", 1), "1");
        Check.same("the nearest ancestor's", d.value("a=2", 2), "2");
        Check.same("each object has its value", d.value("a", 0) + d.ran(4, 1) + d.ran(4, 2), "'x'12");
        Check.same("NULL at first", new Desk().type(-1).field(0, "a", 2).make(0).value("a", 0), "null");
    }
}
