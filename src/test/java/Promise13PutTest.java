/** Promise 13: put. */
final class Promise13PutTest {
    public static void main(String[] args) {
        Desk d = new Desk();
        Check.argument("no object", () -> d.x().put(0, 1));
        d.type(-1).type(0).field(0, "i", Desk.INT).field(1, "t", Desk.TEXT).field(1, "o", 9);
        d.method(0, "me", 0, 0, 4, 0).make(1).make(0);
        Check.argument("object -1", () -> d.x().put(-1, 9));
        Check.argument("object 2", () -> d.x().put(2, 9));
        d.value("5");
        Check.same("a field of an ancestor", d.x().put(0, Desk.code("i")), 0);
        Check.same("the result stays", d.latest(), "5");
        Check.same("no converter", d.x().put(0, Desk.code("t")), 6);
        Check.same("the result stays then", d.latest(), "5");
        Check.same("no such field", d.x().put(1, Desk.code("t")), 5);
        Check.same("a name that none can have", d.x().put(0, 0), 5);
        Check.same("another", d.x().put(0, Integer.MIN_VALUE), 5);
        Check.same("a class's field", d.x().put(0, Desk.code("o")), 6);
        d.converter(Desk.INT, Desk.TEXT);
        Check.same("converted", d.x().put(0, Desk.code("t")), 0);
        Check.same("the result is not converted", d.latest(), "5");
        Check.same("the fields", d.value("i", 0) + d.value("t", 0) + d.value("i", 1), "5'5'null");
        d.value("'x'");
        d.converter(Desk.TEXT, Desk.INT);
        Check.same("a TEXT that is not as said", d.x().put(0, Desk.code("i")), 10);
        Check.same("it stays", d.value("i", 0), "5");
        d.value("1/0");
        Check.same("NULL into a TEXT", d.x().put(0, Desk.code("t")), 0);
        Check.same("it is NULL", d.value("t", 0), "null");
        Check.same("NULL into an INT", d.x().put(0, Desk.code("i")), 6);
        d.value("me()", 0);
        Check.same("an object", d.x().put(0, Desk.code("o")), 0);
        Check.same("it is there", d.value("o.o.i", 0), "5");
        d.value("me()", 1);
        Check.same("an object of the parent", d.x().put(0, Desk.code("o")), 6);
        Check.end();
    }
}
