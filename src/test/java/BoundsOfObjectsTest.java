/** The bounds that RUNNING has for objects: properties, calls, what is set, what fits, and the actions. */
final class BoundsOfObjectsTest {
    public static void main(String[] args) {
        fieldsAreNullAtFirst();
        nearestFields();
        propertiesOfOtherKinds();
        callsOfOtherKinds();
        ownersOfWhatIsSet();
        rightSides();
        whatFitsATypeOfAField();
        whatFitsATypeOfAParameter();
        greatestClass();
        variables();
        sameObjects();
        numbersOfActionZero();
        argumentsOfActions();
        namesOfActionFive();
        fullObjects();
        Check.end();
    }

    /** "have a value for each field of it and of its ancestors, NULL at first"; "VARIABLES ... NULL at first". */
    private static void fieldsAreNullAtFirst() {
        for (int type : new int[] {1, 2, 3, 4, 5, 8, 9}) {
            Desk d = new Desk().type(-1).type(0).field(0, "a", type).field(1, "b", type).make(1).make(0);
            Check.same("a field of type " + type, d.value("b", 0), "null");
            Check.same("an ancestor's of type " + type, d.value("a", 0), "null");
            Check.same("another object's of type " + type, d.value("a", 1), "null");
            Check.same("one of a lower class", d.value("b", 1), "failure 5");
        }
        Check.same("a variable", Desk.of("#a"), "null");
        Check.same("a variable with the longest name", Desk.of("#zzzzz"), "null");
    }

    /** "Of several fields of that name that of the class itself, or of the nearest ancestor." */
    private static void nearestFields() {
        Desk d = new Desk().type(-1).type(0).type(1).type(2).type(3);
        d.field(0, "a", Desk.INT).field(1, "a", Desk.TEXT).field(3, "a", Desk.BOOL);
        d.make(0).make(1).make(2).make(3).make(4);
        String[] values = {"1", "'x'", "true"};
        int[] fitting = {0, 1, 1, 2, 2};
        for (int root = 0; root < fitting.length; root++) {
            for (int i = 0; i < values.length; i++) {
                String due = i == fitting[root] ? values[i] : "failure 6";
                Check.same("a=" + values[i] + " of object " + root, d.value("a=" + values[i], root), due);
            }
            Check.same("a of object " + root, d.value("a", root), values[fitting[root]]);
        }
    }

    /** "of NULL failure 4 (behind ?.: it is NULL); of a TEXT, with the name len: its length; ... else failure 5". */
    private static void propertiesOfOtherKinds() {
        is("null.a", "failure 4");
        is("null.len", "failure 4");
        is("null?.a", "null");
        is("null?.len", "null");
        is("null?.a.b", "failure 4");
        is("null?.a?.b", "null");
        is("null.a?.b", "failure 4");
        is("a", "failure 4");
        is("len", "failure 4");
        is("a?.b", "failure 4");
        is("''.len", "0");
        is("'x'.len", "1");
        is("'12345678'.len", "8");
        is("('12345678'+'12345678').len", "16");
        is("'x'?.len", "1");
        is("'x'.le", "failure 5");
        is("'x'.lena", "failure 5");
        is("'x'.lem", "failure 5");
        is("'x'.leo", "failure 5");
        is("'x'?.a", "failure 5");
        for (String other : new String[] {"true", "5", "1.5", "0"}) {
            is(other + ".len", "failure 5");
            is(other + "?.len", "failure 5");
            is(other + ".a", "failure 5");
        }
    }

    private static void is(String text, String due) {
        Check.same(text, Desk.of(text), due);
    }

    /** "A CALL: of NULL failure 4 ...; then the arguments ...; of another value than an object failure 5." */
    private static void callsOfOtherKinds() {
        is("f()", "failure 4");
        is("f(1/0)", "failure 4");
        is("null.f(1/0,1/0)", "failure 4");
        is("null?.f(1/0,1/0)", "null");
        is("null?.f(1/0).g()", "failure 4");
        is("null?.f()?.g(1/0)", "null");
        for (String other : new String[] {"true", "5", "1.5", "'x'", "''"}) {
            is(other + ".f()", "failure 5");
            is(other + "?.f()", "failure 5");
            is(other + ".len()", "failure 5");
            is(other + ".f(1/0)", "failure 2");
            is(other + ".f(1,-'')", "failure 1");
            is(other + "?.f(1/0,-'')", "failure 2");
        }
        Desk d = new Desk().type(-1).field(0, "f", Desk.ANY).method(0, "m", 0, 0, 0, 3).make(0);
        Check.same("a field is no method", d.value("f()", 0), "failure 8");
        Check.same("a method is no property", d.value("m", 0), "failure 5");
        Check.same("the method", d.value("m()", 0), "3");
    }

    /** "that failed, or NULL: failure 4, also behind ?.; no object with such a field: failure 5"; then the right. */
    private static void ownersOfWhatIsSet() {
        Desk d = new Desk().type(-1).field(0, "a", Desk.INT).field(0, "o", 8).method(0, "me", 0, 0, 4, 0).make(0);
        is("a=1", "failure 4");
        is("a=1/0", "failure 4");
        is("null.a=1", "failure 4");
        is("null?.a=1", "failure 4");
        is("null?.len=1/0", "failure 4");
        is("#v.a=1", "failure 4");
        is("#v?.a=1", "failure 4");
        is("(1/0).a=1", "failure 4");
        is("(1/0)?.a=1", "failure 4");
        is("(-'').a=1", "failure 4");
        is("5.b.a=1", "failure 4");
        is("5.f().a=1", "failure 4");
        for (String other : new String[] {"true", "5", "1.5", "'x'", "''"}) {
            is(other + ".a=1", "failure 5");
            is(other + "?.a=1", "failure 5");
            is(other + ".len=1", "failure 5");
            is(other + ".a=1/0", "failure 5");
        }
        Check.same("o.a with o NULL", d.value("o.a=1", 0), "failure 4");
        Check.same("o?.a with o NULL", d.value("o?.a=1/0", 0), "failure 4");
        Check.same("no field b", d.value("b=1", 0), "failure 5");
        Check.same("no field b ahead of the right", d.value("b=1/0", 0), "failure 5");
        Check.same("a method's name", d.value("me=1", 0), "failure 5");
        Check.same("no field len", d.value("len=1", 0), "failure 5");
        Check.same("what failed with 8", d.value("g().a=1", 0), "failure 4");
        Check.same("nothing was set", d.value("a", 0) + d.value("o", 0), "nullnull");
        Check.same("o", d.value("o=me()", 0), "object 0 of 0");
        Check.same("o?.a", d.value("o?.a=6", 0), "6");
        Check.same("it was set", d.value("a", 0), "6");
        Check.same("a variable was none", d.x().about(4), 0);
    }

    /** "then the right side; then for a variable it is set; for a field ... made FIT"; "(what was set stays)". */
    private static void rightSides() {
        Desk d = new Desk().type(-1).field(0, "a", Desk.INT).make(0).converter(Desk.TEXT, Desk.INT);
        Check.same("set", d.value("a='12'", 0), "12");
        Check.same("the right fails", d.value("a=1/0", 0), "failure 2");
        Check.same("the right does not fit", d.value("a=1.5", 0), "failure 6");
        Check.same("the right is not converted", d.value("a='1.5'", 0), "failure 10");
        Check.same("the result of a failure", d.latest(), "null");
        Check.same("the field stays", d.value("a", 0), "12");
        Check.same("a variable", d.value("#v='12'"), "'12'");
        Check.same("its right fails", d.value("#v=1/0"), "failure 2");
        Check.same("the variable stays", d.value("#v"), "'12'");
        Check.same("a new one whose right fails", d.value("#w=1/0"), "failure 2");
        Check.same("it never got a value", d.x().about(4), 1);
        Check.same("its own value", d.value("a=a+1", 0) + d.value("a=a+1", 0), "1314");
    }

    /** A desk with objects 0, 1, 2 of a class, of a class above it and of one beside it. */
    private static Desk family() {
        Desk d = new Desk().type(-1).type(0).type(0).type(1);
        d.method(0, "me", 0, 0, 4, 0).make(1).make(0).make(2);
        String[] names = {"o", "p", "q"};
        for (int root = 0; root < 3; root++) {
            d.value("#" + names[root] + "=me()", root);
        }
        return d;
    }

    private static final String[] VALUES = {"null", "true", "1", "1.5", "'x'", "#o", "#p", "#q"};

    /** The VALUES as a desk shows them. */
    private static final String[] SHOWN = {
        "null", "true", "1", "real 1500", "'x'", "object 0 of 1", "object 1 of 0", "object 2 of 2"
    };

    /** Which of VALUES fit the types 1 .. 5 and 8 .. 11, a row a type. */
    private static final String[] FITS = {
        ".y......", "..y.....", "...y....", "y...y...", "yyyyyyyy", "y....yyy", "y....y..", "y......y", "y......."
    };

    private static int typeOf(int row) {
        return row < 5 ? row + 1 : row + 3;
    }

    /** "A value FITS a type when ...": each kind with each type. */
    private static void whatFitsATypeOfAField() {
        for (int row = 0; row < FITS.length; row++) {
            Desk d = new Desk().type(-1).type(0).type(0).type(1);
            d.method(0, "me", 0, 0, 4, 0).field(0, "a", typeOf(row)).make(1).make(0).make(2);
            d.value("#o=me()", 0);
            d.value("#p=me()", 1);
            d.value("#q=me()", 2);
            for (int i = 0; i < VALUES.length; i++) {
                String text = "a=" + VALUES[i];
                boolean fits = FITS[row].charAt(i) == 'y';
                Check.same(text + " of type " + typeOf(row), d.value(text, 0), fits ? SHOWN[i] : "failure 6");
            }
        }
    }

    private static void whatFitsATypeOfAParameter() {
        for (int row = 0; row < FITS.length; row++) {
            Desk d = family().method(0, "f", typeOf(row), 0, 0, 1).method(0, "g", Desk.ANY, typeOf(row), 0, 2);
            for (int i = 0; i < VALUES.length; i++) {
                boolean fits = FITS[row].charAt(i) == 'y';
                String text = "f(" + VALUES[i] + ")";
                Check.same(text + " of type " + typeOf(row), d.value(text, 0), fits ? "1" : "failure 8");
                text = "g(null," + VALUES[i] + ")";
                Check.same(text + " of type " + typeOf(row), d.value(text, 0), fits ? "2" : "failure 8");
            }
        }
    }

    /** Class 4 with its kind 12, the last there can be, and class 0 with its kind 8. */
    private static void greatestClass() {
        Desk d = new Desk().type(-1).type(0).type(1).type(2).type(3).field(0, "a", 12).field(4, "b", 8);
        d.method(0, "me", 0, 0, 4, 0).method(0, "f", 12, 0, 0, 1).make(4).make(3).make(0);
        Check.same("its kind", d.value("me()", 0) + " " + d.x().result(0), "object 0 of 4 12");
        Check.same("class 0's kind", d.value("me()", 2) + " " + d.x().result(0), "object 2 of 0 8");
        Check.same("it fits its own type", d.value("a=me()", 0), "object 0 of 4");
        Check.same("and that of its furthest ancestor", d.value("b=me()", 0), "object 0 of 4");
        Check.same("its parent does not fit", d.value("a=me()", 1), "failure 6");
        Check.same("as an argument", d.value("f(me())", 0) + d.value("f(me())", 1), "1failure 8");
    }

    /** "VARIABLES have names and values": twelve of them beside one another; a 13th by = is failure 11. */
    private static void variables() {
        Desk d = new Desk();
        String names = "abcdefghijklm";
        for (int i = 0; i < 12; i++) {
            Check.same("a variable", d.value("#" + names.charAt(i) + "=" + (i + 100)), "" + (i + 100));
            Check.same("variables", d.x().about(4), i + 1);
        }
        Check.same("a 13th", d.value("#m=1"), "failure 11");
        Check.same("a 13th to NULL", d.value("#m=null"), "failure 11");
        Check.same("the right of a 13th goes first", d.value("#m=1/0"), "failure 2");
        Check.same("variables stay", d.x().about(4), 12);
        Check.same("the 13th", d.value("#m"), "null");
        for (int i = 0; i < 12; i++) {
            Check.same("its value", d.value("#" + names.charAt(i)), "" + (i + 100));
        }
        Check.same("the 12th again", d.value("#l=1"), "1");
        Check.same("the first again", d.value("#a=2"), "2");
    }

    /** "objects if they are the same". */
    private static void sameObjects() {
        Desk d = family();
        String[] names = {"#o", "#p", "#q"};
        for (int a = 0; a < names.length; a++) {
            for (int b = 0; b < names.length; b++) {
                Check.same(names[a] + names[b], d.value(names[a] + "==" + names[b]), a == b ? "true" : "false");
                Check.same(names[a] + names[b], d.value(names[a] + "!=" + names[b]), a == b ? "false" : "true");
            }
        }
        d.make(1).value("#r=me()", 3);
        Check.same("another of the same class", d.value("#o==#r") + d.value("#r!=#o"), "falsetrue");
        Check.same("the same again", d.value("#r==#r") + d.value("#r==me()", 3), "truetrue");
        otherKindsThanObjects();
    }

    private static void otherKindsThanObjects() {
        Desk d = family();
        for (String other : new String[] {"null", "0", "false", "''", "'o0'", "0.0", "true"}) {
            Check.same("object 0 and " + other, d.value("#o==" + other), "false");
            Check.same(other + " and object 0", d.value(other + "!=#o"), "true");
        }
        for (String sign : new String[] {"+", "-", "*", "/", "%", "<", ">=", "&&", "||"}) {
            Check.same("object 0 " + sign, d.value("#o" + sign + "#o"), "failure 1");
        }
        for (String text : new String[] {"-#o", "!#o", "#o?1:2"}) {
            Check.same(text, d.value(text), "failure 1");
        }
        Check.same("an object and a TEXT", d.value("#o+''") + d.value("''+#o"), "failure 1failure 1");
        Check.same("an object is there", d.value("#o?:1"), "object 0 of 1");
    }

    /** "0: the result is the method's number, an INT." */
    private static void numbersOfActionZero() {
        int[] numbers = {0, 1, -1, Integer.MAX_VALUE, Integer.MIN_VALUE, 7};
        Desk d = new Desk().type(-1);
        for (int i = 0; i < numbers.length; i++) {
            d.method(0, "" + (char) ('a' + i), 0, 0, 0, numbers[i]);
        }
        d.make(0);
        for (int i = 0; i < numbers.length; i++) {
            Check.same("a number", d.value((char) ('a' + i) + "()", 0), "" + numbers[i]);
        }
    }

    /** "NULL without one" of 1 and 2; "with less than two failure 1" of 3; "4: the object itself". */
    private static void argumentsOfActions() {
        String[] due1 = {"null", "'x'", "'x'"};
        String[] due2 = {"null", "null", "7"};
        String[] due3 = {"failure 1", "failure 1", "'x7'"};
        String[] due4 = {"object 0 of 0", "object 0 of 0", "object 0 of 0"};
        String[][] due = {due1, due2, due3, due4};
        for (int action = 1; action <= 4; action++) {
            Desk d = new Desk().type(-1).method(0, "f", 0, 0, action, 9).method(0, "f", 5, 0, action, 9);
            d.method(0, "f", 5, 5, action, 9).method(0, "g", 4, 4, action, 9).make(0);
            Check.same("none for action " + action, d.value("f()", 0), due[action - 1][0]);
            Check.same("one for action " + action, d.value("f('x')", 0), due[action - 1][1]);
            Check.same("two for action " + action, d.value("f('x',7)", 0), due[action - 1][2]);
            Check.same("one NULL", d.value("f(null)", 0), action == 3 ? "failure 1" : action == 4 ? due4[0] : "null");
        }
        Desk d = new Desk().type(-1).method(0, "f", 5, 5, 3, 0).method(0, "g", 4, 5, 3, 0).make(0);
        d.value("#t='12345678'+'12345678'");
        Check.same("3: 16 characters", d.value("f('12345678','12345678')", 0), "'1234567812345678'");
        Check.same("3: 17 characters", d.value("f(#t,'1')", 0), "failure 9");
        Check.same("3: a wrap", d.value("f(65536*32767,65536)", 0), "-2147483648");
        Check.same("3: other kinds", d.value("f(true,1)", 0), "failure 1");
        d.value("#m=100000*10.0*1000*1000");
        Check.same("3: a great REAL", d.value("f(#m,0)==#m", 0), "true");
        Check.same("3: a REAL too great", d.value("f(#m,0.001)", 0), "failure 3");
        Check.same("3: NULL and a TEXT", d.value("g(null,'x')", 0), "'nullx'");
    }

    /** "5: the object's field whose name has the code number: as a property (failure 5)". */
    private static void namesOfActionFive() {
        int[] numbers = {1, 14348906, 0, -1, 14348907, Integer.MIN_VALUE};
        Desk d = new Desk().type(-1).type(0).field(0, "a", Desk.ANY).field(1, "zzzzz", Desk.ANY);
        for (int i = 0; i < numbers.length; i++) {
            d.method(0, "" + (char) ('a' + i), 0, 0, 5, numbers[i]);
        }
        d.make(1).make(0);
        d.value("a=1", 0);
        d.value("zzzzz=2", 0);
        String[] due = {"1", "2", "failure 5", "failure 5", "failure 5", "failure 5"};
        for (int i = 0; i < numbers.length; i++) {
            Check.same("5 with " + numbers[i], d.value((char) ('a' + i) + "()", 0), due[i]);
        }
        Check.same("of an object without that field", d.value("b()", 1), "failure 5");
        Check.same("of an object with that field", d.value("a()", 1), "null");
    }

    /** Five classes with six fields each: the last object of the last class has thirty values apart. */
    private static void fullObjects() {
        Desk d = new Desk().type(-1).type(0).type(1).type(2).type(3);
        for (int i = 0; i < 30; i++) {
            Check.same("a field", d.x().field(i / 6, i + 100, Desk.ANY), i % 6 + 1);
        }
        for (int i = 0; i < 30; i++) {
            d.make(4);
        }
        d.value("#n=0");
        int next = d.parse("#n=#n+1");
        for (int i = 0; i < 30; i++) {
            d.x().run(next, Desk.NONE);
            Check.same("put", d.x().put(29, i + 100), 0);
        }
        for (int i = 0; i < 30; i++) {
            int high = (i + 100) / 27;
            int low = (i + 100) % 27;
            String name = "" + (char) ('a' + high - 1) + (char) ('a' + low - 1);
            if (low > 0) {
                Check.same("field " + name, d.value(name, 29), "" + (i + 1));
            }
        }
        Check.same("of the object ahead", d.value("cs", 28), "null");
    }
}
