/** Promise 10: keep, and the variables. */
final class Promise10KeepTest {
    public static void main(String[] args) {
        kinds();
        fullByKeep();
        fullBySet();
        Check.end();
    }

    private static void kinds() {
        Desk d = new Desk().type(-1).type(-1).method(1, "me", 0, 0, 4, 0).make(1);
        Check.argument("name 0", () -> d.x().keep(0));
        Check.argument("name -1", () -> d.x().keep(-1));
        Check.argument("name 14348907", () -> d.x().keep(14348907));
        Check.same("NULL of a new object", d.x().keep(Desk.code("a")), 0);
        Check.same("NULL counts", d.x().about(4), 1);
        String[] texts = {"true", "1", "1.5", "'x'", "me()"};
        int[] kinds = {1, 2, 3, 4, 9};
        for (int i = 0; i < texts.length; i++) {
            String value = d.value(texts[i], 0);
            Check.same("the kind of " + texts[i], d.x().keep(Desk.code("zzzzz")), kinds[i]);
            Check.same("the variable", d.value("#zzzzz"), value);
        }
        Check.same("the same variable counts once", d.x().about(4), 2);
        Check.same("another is NULL", d.value("#a"), "null");
        Check.same("reading one makes none", d.value("#b"), "null");
        Check.same("still two", d.x().about(4), 2);
        Check.same("a failure is kept as NULL", d.value("1/0"), "failure 2");
        Check.same("as NULL", d.x().keep(Desk.code("zzzzz")), 0);
        Check.same("it is NULL", d.value("#zzzzz"), "null");
        Check.same("the result stays", d.value("7") + d.x().keep(1) + d.latest(), "727");
    }

    private static void fullByKeep() {
        Desk d = new Desk();
        d.value("5");
        for (int i = 1; i <= 12; i++) {
            Check.same("a variable", d.x().keep(i), 2);
            Check.same("variables", d.x().about(4), i);
        }
        Check.state("a 13th", () -> d.x().keep(13));
        Check.argument("a wrong name comes first", () -> d.x().keep(0));
        Check.same("12 stay", d.x().about(4), 12);
        Check.same("a 13th by =", d.value("#m=1"), "failure 11");
        Check.same("the right side fails first", d.value("#m=1/0"), "failure 2");
        Check.same("it is NULL", d.value("#m"), "null");
        Check.same("one of the 12 by =", d.value("#l=6"), "6");
        d.value("7");
        Check.same("one of the 12", d.x().keep(1), 2);
        Check.same("the last of the 12", d.value("#l"), "6");
        Check.same("the first of the 12", d.value("#a"), "7");
    }

    private static void fullBySet() {
        Desk d = new Desk();
        for (char c = 'a'; c <= 'l'; c++) {
            d.value("#" + c + "=" + (c == 'c' ? "null" : "" + (int) c));
        }
        Check.same("12 by =", d.x().about(4), 12);
        Check.state("a 13th by keep", () -> d.x().keep(13));
        Check.same("one of the 12 by keep", d.x().keep(3), 2);
        Check.same("its value", d.value("#c"), "108");
        Check.same("its neighbour's", d.value("#b"), "98");
    }
}
