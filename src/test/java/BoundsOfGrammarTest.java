/** The bounds that the GRAMMAR has: how often a part may stand, what = takes, how deep a choice may be. */
final class BoundsOfGrammarTest {
    private static final String[] REPEATED = {"||", "&&", "+", "-", "*", "/", "%"};
    private static final String[] ONCE = {"<", ">", "<=", ">=", "==", "!="};

    public static void main(String[] args) {
        operatorsAnyNumberOfTimes();
        comparisonsOnceOrNot();
        signsOnceOrNot();
        choicesOnceOrNot();
        chains();
        firsts();
        arguments();
        whatIsSet();
        placesOfWhatDoesNotFit();
        depths();
        tokensThatStandTooDeep();
        depthsBesideOneAnother();
        firstErrorCounts();
        Check.end();
    }

    private static void read(String text) {
        Check.same("parse of " + text, Desk.parsed(text), 0);
    }

    private static void error(String text, int error, int place) {
        Check.same("parse of " + text, Desk.parsed(text), -1000 * error - place);
    }

    /** "{x} any number of times". */
    private static void operatorsAnyNumberOfTimes() {
        for (String sign : REPEATED) {
            StringBuilder text = new StringBuilder("a");
            while (text.length() + sign.length() < 40) {
                text.append(sign).append('a');
                read(text.toString());
            }
            error("a" + sign, 2, 1 + sign.length());
            error("a" + sign + " ", 2, 2 + sign.length());
            error("a" + sign + ")", 2, 1 + sign.length());
        }
        read("-1+1-1+1-1+1-1+1-1+1-1+1-1+1-1+1-1+1-1+1");
    }

    /** "test: sum [ (one of < > <= >= == !=) sum ]": not a second time, but in brackets. */
    private static void comparisonsOnceOrNot() {
        for (String sign : ONCE) {
            read("a" + sign + "b");
            error("a" + sign, 2, 1 + sign.length());
            for (String second : ONCE) {
                error("a" + sign + "b" + second + "c", 2, 2 + sign.length());
                read("(a" + sign + "b)" + second + "c");
                read("a" + sign + "b&&c" + second + "d");
            }
        }
    }

    /** "sign: [ - or ! ] chain": not a second one, but in brackets. */
    private static void signsOnceOrNot() {
        for (String sign : new String[] {"-", "!"}) {
            read(sign + "a");
            read("a*" + sign + "a");
            error(sign, 2, 1);
            for (String second : new String[] {"-", "!"}) {
                error(sign + second + "a", 2, 1);
                read(sign + "(" + second + "a)");
            }
        }
        error("+a", 2, 0);
        error("*a", 2, 0);
        error("a*+a", 2, 2);
    }

    /** "choice: either [ ? choice : choice ]  or  either ?: choice". */
    private static void choicesOnceOrNot() {
        read("a");
        read("a?b:c");
        read("a?:b");
        error("a?", 2, 2);
        error("a?b", 2, 3);
        error("a?b:", 2, 4);
        error("a?:", 2, 3);
        error("a?b:c:d", 2, 5);
        error("a?:b:c", 2, 4);
        error("a:b", 2, 1);
        error("?b:c", 2, 0);
        error("?:b", 2, 0);
        error("a+?:b", 2, 2);
        error("a+?b:c", 2, 2);
        error("a?:?:b", 2, 3);
        error("a?b::c", 2, 4);
        read("a||b?c:d");
        read("a?b:c?d:e");
        read("a?b?c:d:e");
        read("a?:b?:c");
        read("a?:b?c:d");
    }

    /** "chain: first { (. or ?.) NAME [ arguments ] }". */
    private static void chains() {
        StringBuilder text = new StringBuilder("a");
        while (text.length() < 39) {
            text.append(".a");
            read(text.toString());
        }
        error(text + ".", 2, 40);
        read("a?.a?.a?.a?.a?.a?.a?.a?.a?.a?.a?.a?.a?.a");
        read("a().a().a().a().a().a().a().a().a().a()");
        error("a()()", 2, 3);
        error("a.b()()", 2, 5);
        error("a.", 2, 2);
        error("a?.", 2, 3);
        error("a..b", 2, 2);
        error("a.?.b", 2, 2);
        error("a.#b", 2, 2);
        error("a.'b'", 2, 2);
        error("a.(b)", 2, 2);
        error("a.1", 2, 2);
    }

    /** "first: NUMBER or REAL or QUOTED or true or false or null or # NAME or NAME [ arguments ] or ( choice )". */
    private static void firsts() {
        for (String first : new String[] {"1", "1.5", "'x'", "true", "false", "null", "#a", "a", "a()", "(a)"}) {
            read(first);
            read(first + ".b");
            read("-" + first + "+" + first);
        }
        for (String first : new String[] {"1", "1.5", "'x'", "true", "false", "null", "#a", "(a)"}) {
            error(first + "()", 2, first.length());
        }
        error("#", 2, 1);
        error("# ", 2, 2);
        error("##a", 2, 1);
        error("#1", 2, 1);
        error("#(a)", 2, 1);
        error("()", 2, 1);
        error("(", 2, 1);
        error("(a", 2, 2);
        error("(a b)", 2, 3);
        error("a)", 2, 1);
    }

    /** "at most 2"; "a third argument does not fit at its comma". */
    private static void arguments() {
        read("f()");
        read("f(1)");
        read("f(1,2)");
        error("f(1,2,3)", 2, 5);
        error("f(1,2 ,3)", 2, 6);
        error("f(1,2,", 2, 5);
        error("f(1,2,)", 2, 5);
        error("a.f(1,2,3)", 2, 7);
        error("f(g(1,2,3))", 2, 7);
        error("f(1,g(1,2),3)", 2, 10);
        read("f(g(1,2),g(1,2))");
        error("f(", 2, 2);
        error("f(,", 2, 2);
        error("f(,1)", 2, 2);
        error("f(1", 2, 3);
        error("f(1,", 2, 4);
        error("f(1,)", 2, 4);
        error("f(1,2", 2, 5);
        error("f(1 2)", 2, 4);
        error("f(1,2 3)", 2, 6);
    }

    /** "a # NAME, or a chain that ends with a NAME without arguments (or is one), not in brackets; else =". */
    private static void whatIsSet() {
        String[] can = {"#a", "a", "a.b", "a?.b", "#a.b", "f().b", "(a).b", "1.b", "'x'.b", "a.true"};
        for (String left : can) {
            read(left + "=1");
            read(left + "=b?c:d");
            error(left + "=", 2, left.length() + 1);
            error(left + "=b=c", 2, left.length() + 2);
            error("(" + left + ")=1", 2, left.length() + 2);
            error("-" + left + "=1", 2, left.length() + 1);
            error("2*" + left + "=1", 2, left.length() + 2);
            error("(" + left + "=1)", 2, left.length() + 1);
            error("f(" + left + "=1)", 2, left.length() + 2);
            error("a?:" + left + "=1", 2, left.length() + 3);
            error("a?b:" + left + "=1", 2, left.length() + 4);
        }
        String[] others = {"1", "1.5", "'x'", "true", "f()", "a.f()", "#a.f(1)", "(f())", "a+b", "a?b:c"};
        for (String left : others) {
            error(left + "=1", 2, left.length());
        }
        error("=1", 2, 0);
        error("((a))=1", 2, 5);
        error("(a.b)=1", 2, 5);
        error("((a).b)=1", 2, 7);
    }

    /** "an ERROR 2 at its first character (at the end of the text: at its length)". */
    private static void placesOfWhatDoesNotFit() {
        String spaces = "                                        ";
        for (int length = 0; length <= 40; length++) {
            error(spaces.substring(0, length), 2, length);
        }
        for (int place = 0; place < 40; place++) {
            error(spaces.substring(0, place) + ")", 2, place);
        }
        error("1" + spaces.substring(0, 38) + "2", 2, 39);
        error("1" + spaces.substring(0, 33) + "abcde ", 2, 34);
        error("(1" + spaces.substring(0, 38), 2, 40);
        error("1 == 2 >= 3", 2, 7);
    }

    /** "one within another choice ... is one deeper; where one of depth 5 would begin ... an ERROR 3". */
    private static void depths() {
        nested("(", "1", ")", 5);
        nested("f(", "1", ")", 10);
        nested("f(1,", "1", ")", 18);
        nested("1?", "1", ":1", 10);
        nested("1?1:", "1", "", 18);
        nested("1?:", "1", "", 15);
        nested("-(", "1", ")", 10);
        nested("1+(", "1", ")*2", 15);
        read("(f(1,1?(1):1))");
        error("(f(1,1?(1?:2):1))", 3, 11);
        error("(f(1,1?(1?2:3):1))", 3, 10);
        error("(f(1,1?((1)):1))", 3, 9);
        error("(f(1,1?(f(1)):1))", 3, 10);
        read("(f(1,1?(f()):1))");
    }

    /** The place is that of the first choice of depth 5 when five of them stand within one another. */
    private static void nested(String ahead, String inner, String behind, int place) {
        String text = inner;
        for (int depth = 0; depth <= 4; depth++) {
            read(text);
            if (text.length() <= 38) {
                read("a=" + text);
            }
            text = ahead + text + behind;
        }
        error(text, 3, place);
        if (text.length() <= 38) {
            error("a=" + text, 3, place + 2);
        }
    }

    /** "the token that stands there is an ERROR 3, whatever it is". */
    private static void tokensThatStandTooDeep() {
        String[] tokens = {"1", "1.5", "'x'", "a", "true", "#", "(", ")", "+", "-", "!", ",", ":", "?", "?:", "=", "."};
        for (String token : tokens) {
            error("(((((" + token, 3, 5);
            error("((((( " + token, 3, 6);
            error("a?:a?:a?:a?:a?:" + token, 3, 15);
            error("((((1? " + token, 3, 7);
            error("(((1?1:(" + token, 3, 8);
            error("((((f(1," + token, 3, 6);
            if (!token.equals(")")) {
                error("((((f(" + token, 3, 6);
            }
        }
        error("(((((", 3, 5);
        error("(((((  ", 3, 7);
        error("((((1?", 3, 6);
        error("((((1?:", 3, 7);
        error("((((f(", 3, 6);
        read("((((f()))))");
        error("((((f( )))", 2, 10);
        error("((((", 2, 4);
        error("((((+", 2, 4);
        error("((((1", 2, 5);
    }

    /** Choices of depth 4 that stand beside one another are no deeper for that. */
    private static void depthsBesideOneAnother() {
        read("((((1))))+((((1))))-((((1))))*((((1))))");
        read("f((((1))),(((1)))).f((((1))),(((1))))");
        read("1?:1?:1?:1?:1");
        read("1?(((1))):(((1)))");
        error("1?(((1))):((((1))))", 3, 14);
        error("1?((((1)))):1", 3, 6);
        error("((((1))))+(((((1)))))", 3, 15);
        error("f((((1))),((((1)))))", 3, 14);
    }

    /** "Errors 1 come before the others; of these the first that is met from left to right counts." */
    private static void firstErrorCounts() {
        error(") $", 1, 2);
        error("(((((1 $", 1, 7);
        error("1 2 1234567", 1, 4);
        error("1 2 'x", 1, 4);
        error("1 abcdef $", 1, 2);
        error("$ abcdef", 1, 0);
        error("1 2 (((((1", 2, 2);
        error("(((((1 2", 3, 5);
        error(")(((((", 2, 0);
        error("1)2)", 2, 1);
        error("a=b=(((((1", 2, 3);
        error("a+b=(((((1", 2, 3);
    }
}
