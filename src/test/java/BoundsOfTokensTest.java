/** The bounds in "Terms" that names, expressions and tokens have, each just inside and just outside. */
final class BoundsOfTokensTest {
    public static void main(String[] args) {
        lettersOfNames();
        codesOfNames();
        charactersOfExpressions();
        everyCharacterAlone();
        everyCharacterInQuotes();
        lengthsOfExpressions();
        digitsOfNumbers();
        digitsOfReals();
        pointsOfReals();
        charactersOfQuoteds();
        everySign();
        signsAsLongAsCanBe();
        spaces();
        wordsThatAreAlwaysThese();
        placesOfErrors();
        Check.end();
    }

    private static void read(String text) {
        Check.same("parse of " + text, Desk.parsed(text), 0);
    }

    private static void error(String text, int error, int place) {
        Check.same("parse of " + text, Desk.parsed(text), -1000 * error - place);
    }

    private static void is(String text, String due) {
        Check.same(text, Desk.of(text), due);
    }

    /** "NAMES are 1 to 5 letters a .. z"; "too long for one, is an ERROR 1 at its first character". */
    private static void lettersOfNames() {
        for (String name : new String[] {"a", "z", "az", "zaz", "abcd", "aaaaa", "zzzzz"}) {
            read(name);
            read("#" + name);
            read("a." + name);
            read("a?." + name);
            read(name + "()");
        }
        for (String name : new String[] {"aaaaaa", "zzzzzz", "abcdefghij"}) {
            error(name, 1, 0);
            error("#" + name, 1, 1);
            error("a." + name, 1, 2);
            error("a?." + name, 1, 3);
            error(name + "()", 1, 0);
        }
        error("`", 1, 0);
        error("a`", 1, 1);
        error("{", 1, 0);
        error("a{", 1, 1);
        error("aA", 1, 1);
        error("aaaaaZ", 1, 5);
    }

    /** "the CODE of a name: from 0, for each letter times 27 plus 1 .. 26". */
    private static void codesOfNames() {
        codeIs("a", 1);
        codeIs("z", 26);
        codeIs("aa", 28);
        codeIs("az", 53);
        codeIs("za", 703);
        codeIs("zz", 728);
        codeIs("aaa", 757);
        codeIs("zzzz", 531440);
        codeIs("aaaaa", 551881);
        codeIs("zzzzz", 14348906);
    }

    private static void codeIs(String name, int code) {
        Desk d = new Desk().type(-1);
        d.x().field(0, code, Desk.ANY);
        d.x().method(0, code, 0, 0, 0, 5);
        d.make(0);
        Check.same("a value", d.value("7"), "7");
        Check.same("keep(" + code + ")", d.x().keep(code), 2);
        Check.same("#" + name, d.value("#" + name), "7");
        Check.same("put(0, " + code + ")", d.x().put(0, code), 0);
        Check.same(name, d.value(name, 0), "7");
        Check.same(name + "()", d.value(name + "()", 0), "5");
    }

    /** "characters 32 .. 126". */
    private static void charactersOfExpressions() {
        Desk d = new Desk().write("'a");
        Check.argument(d, "letter(31)", () -> d.x().letter(31));
        Check.argument(d, "letter(127)", () -> d.x().letter(127));
        Check.same("letter(32)", d.x().letter(32), 3);
        Check.same("letter(126)", d.x().letter(126), 4);
        Check.same("its value", d.value("'"), "'a ~'");
    }

    /** "What can't be a token ... is an ERROR 1": of the characters that begin a token, none other is one. */
    private static void everyCharacterAlone() {
        everyOneIs("abcdefghijklmnopqrstuvwxyz0123456789", 0);
        everyOneIs("+*/%<>?:.),=", -2000);
        everyOneIs(" -!(#", -2001);
        everyOneIs("ABCDEFGHIJKLMNOPQRSTUVWXYZ\"$&'", -1000);
        everyOneIs(";@[\\]^_`{|}~", -1000);
    }

    private static void everyOneIs(String characters, int due) {
        for (char c : characters.toCharArray()) {
            Check.same("parse of " + c, Desk.parsed("" + c), due);
        }
    }

    /** "a QUOTED is at most 8 characters other than ' between two '". */
    private static void everyCharacterInQuotes() {
        for (int c = 32; c <= 126; c++) {
            if (c != '\'') {
                is("'" + (char) c + "'", "'" + (char) c + "'");
            }
        }
        error("'''", 1, 2);
        is("'''", "error -1002");
    }

    /** "An EXPRESSION is a text of at most 40 characters". */
    private static void lengthsOfExpressions() {
        String ones = "1+1+1+1+1+1+1+1+1+1+1+1+1+1+1+1+1+1+1+";
        is(ones + "1", "20");
        is(ones + "12", "31");
        Desk d = new Desk().write(ones + "12");
        Check.state(d, "a 41st character", () -> d.x().letter('3'));
        Check.same("the 40 are read", d.ran(d.x().parse(), -1), "31");
        error("", 2, 0);
        error(ones + "1+", 2, 40);
        error(ones + "1$", 1, 39);
        error(ones + "1)", 2, 39);
    }

    /** "a NUMBER is 1 to 6 digits". */
    private static void digitsOfNumbers() {
        is("0", "0");
        is("9", "9");
        is("12345", "12345");
        is("000000", "0");
        is("999999", "999999");
        is("100000", "100000");
        error("0000000", 1, 0);
        error("1000000", 1, 0);
        error("9999999", 1, 0);
        error("1+ 1000000", 1, 3);
        error("12345678901234567890", 1, 0);
        error("/1", 2, 0);
        error("1:", 2, 1);
    }

    /** "a REAL is that, a point and 1 to 3 digits"; "divided by 10.0, 100.0 or 1000.0". */
    private static void digitsOfReals() {
        is("0.0", "real 0");
        is("0.1", "real 100");
        is("0.01", "real 10");
        is("0.001", "real 1");
        is("0.010", "real 10");
        is("0.100", "real 100");
        is("0.999", "real 999");
        is("9.99", "real 9990");
        is("9.9", "real 9900");
        is("999999.999", "real 999999999");
        is("000000.000", "real 0");
        is("1.5==15/10.0", "true");
        is("1.23==123/100.0", "true");
        is("1.234==1234/1000.0", "true");
        error("0.0000", 1, 0);
        error("1.2345", 1, 0);
        error("999999.9999", 1, 0);
        error("0000000.0", 1, 0);
        error("1000000.0", 1, 0);
        error("1000000.", 1, 0);
        error("2- 1.2345", 1, 3);
    }

    /** "(A point behind a number and ahead of a digit belongs to a REAL.)" */
    private static void pointsOfReals() {
        error("1.", 2, 2);
        error("1. 5", 2, 3);
        error("1 .5", 2, 3);
        error("1..5", 2, 2);
        error("1.5.5", 2, 4);
        error(".5", 2, 0);
        error("a.5", 2, 2);
        error("'a'.5", 2, 4);
        error("1?.5", 2, 3);
        read("1.a");
        read("1.5.a");
        is("1.len", "failure 5");
        is("1 .len", "failure 5");
        is("1.5.len", "failure 5");
    }

    /** "at most 8 characters"; without a second ' it can't be a token. */
    private static void charactersOfQuoteds() {
        is("''", "''");
        is("'a'", "'a'");
        is("'1234567'", "'1234567'");
        is("'12345678'", "'12345678'");
        is("'        '", "'        '");
        error("'123456789'", 1, 0);
        error("'         '", 1, 0);
        error("a+'123456789'", 1, 2);
        error("'", 1, 0);
        error("'12345678", 1, 0);
        error("'123456789", 1, 0);
        error("1+'", 1, 2);
        error("''+'", 1, 3);
    }

    /** "a SIGN is one of ...": each of them where it fits, and what stands beside them is none. */
    private static void everySign() {
        is("6+3", "9");
        is("6-3", "3");
        is("6*3", "18");
        is("6/3", "2");
        is("6%4", "2");
        is("6<3", "false");
        is("6>3", "true");
        is("6<=3", "false");
        is("6>=3", "true");
        is("6==3", "false");
        is("6!=3", "true");
        is("true&&false", "false");
        is("true||false", "true");
        is("!true", "false");
        is("true?6:3", "6");
        is("null?:3", "3");
        is("'a'.len", "1");
        is("null?.len", "null");
        is("(6)", "6");
        is("#a=6", "6");
        read("f(6,3)");
        error("1&2", 1, 1);
        error("1& &2", 1, 1);
        error("1&&&2", 1, 3);
        error("1|2", 1, 1);
        error("1|||2", 1, 3);
    }

    /** "each as long as can be". */
    private static void signsAsLongAsCanBe() {
        error("1===2", 2, 3);
        error("1!==2", 2, 3);
        error("1<==2", 2, 3);
        error("1>==2", 2, 3);
        error("1<>2", 2, 2);
        error("1=<2", 2, 1);
        error("#a==1=2", 2, 5);
        error("a?:b:c", 2, 4);
        error("a?.5:1", 2, 3);
        error("1??:2", 2, 2);
        read("a?b?:c:d");
        read("1?-2:-3");
        read("1!=!a");
        read("1<-2");
        read("#a=-2");
        read("#a=!b");
        error("123 456", 2, 4);
        error("ab cd", 2, 3);
        error("12ab", 2, 2);
        error("ab12", 2, 2);
    }

    /** "spaces (32) between or not": between tokens, and not within one. */
    private static void spaces() {
        is(" 1 + 2 ", "3");
        is("   ( 1 )   *   ( 2 )   ", "2");
        is(" 'a' . len ", "1");
        is(" null ?. a ", "null");
        is(" # a = 4 ", "4");
        is("' a '", "' a '");
    }

    /** "(true, false and null are names too, but here always these, not behind a point or #.)" */
    private static void wordsThatAreAlwaysThese() {
        is("true", "true");
        is("false", "false");
        is("null", "null");
        is("#true=1", "1");
        is("#false=1", "1");
        is("#null=1", "1");
        is("tru", "failure 4");
        is("truee", "failure 4");
        is("fals", "failure 4");
        is("nul", "failure 4");
        is("nulll", "failure 4");
        error("true=1", 2, 4);
        error("false=1", 2, 5);
        error("null=1", 2, 4);
        error("true()", 2, 4);
        error("false()", 2, 5);
        error("null()", 2, 4);
        String[] words = {"true", "false", "null"};
        Desk d = new Desk().type(-1).method(0, "me", 0, 0, 4, 0);
        for (String word : words) {
            d.field(0, word, Desk.ANY).method(0, word, 0, 0, 0, 9);
        }
        d.make(0);
        for (String word : words) {
            Check.same("set " + word, d.value("me()." + word + "=5", 0), "5");
            Check.same(word + " behind a point", d.value("me()." + word, 0), "5");
            Check.same(word + " behind ?.", d.value("me()?." + word, 0), "5");
            Check.same(word + " as a method", d.value("me()." + word + "()", 0), "9");
            Check.same(word + " alone", d.value(word, 0), word);
        }
    }

    /** "ERROR 1 at its first character", from the first to the last place of a text. */
    private static void placesOfErrors() {
        String spaces = "                                        ";
        for (int place = 0; place < 40; place++) {
            error(spaces.substring(0, place) + "$", 1, place);
        }
        error(spaces.substring(0, 34) + "abcdef", 1, 34);
        error(spaces.substring(0, 33) + "1234567", 1, 33);
        error(spaces.substring(0, 35) + "'1234", 1, 35);
        error("$" + spaces.substring(1), 1, 0);
    }
}
