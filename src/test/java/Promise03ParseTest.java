/** Promise 3: parse: tokens, the grammar, and the place of what is wrong. */
final class Promise03ParseTest {
    public static void main(String[] args) {
        numbers();
        tokens();
        signs();
        grammar();
        bothSidesOfSet();
        depth();
        firstErrorCounts();
        fullTexts();
        programs();
        Check.end();
    }

    private static void read(String text) {
        Check.same("parse of " + text, Desk.parsed(text), 0);
    }

    private static void error(String text, int error, int place) {
        Check.same("parse of " + text, Desk.parsed(text), -1000 * error - place);
    }

    private static void numbers() {
        read("123456");
        error("1234567", 1, 0);
        error("1+1234567", 1, 2);
        read("123456.123");
        error("123456.1234", 1, 0);
        error("1234567.1", 1, 0);
        error(" 1.2345", 1, 1);
        error("1.", 2, 2);
        error("1. 5", 2, 3);
        error("1 .5", 2, 3);
        error("1.5.3", 2, 4);
        error("1.5e", 2, 3);
        error("1a", 2, 1);
        read("1.a");
        read("1.5.a");
        error("1.5.a.3", 2, 6);
        error("a.5", 2, 2);
        error("1 2", 2, 2);
    }

    private static void tokens() {
        read("abcde");
        error("abcdef", 1, 0);
        error("a+ abcdef", 1, 3);
        error("a.abcdef", 1, 2);
        read("'12345678'");
        read("''");
        read("' +\"A'");
        error("'123456789'", 1, 0);
        error("a+'12345678", 1, 2);
        error("'", 1, 0);
        error("''' ", 1, 2);
        error("A", 1, 0);
        error("a$", 1, 1);
        error("a_b", 1, 1);
        error("\"a\"", 1, 0);
        error("a[1]", 1, 1);
        error("~", 1, 0);
        read("  ( a )  . b ( 1 , # c ) ");
        read("# c");
        error("a b", 2, 2);
        error("a1", 2, 1);
    }

    private static void signs() {
        error("1&2", 1, 1);
        error("1|2", 1, 1);
        error("a&& &b", 1, 4);
        read("a&&b");
        read("a||b");
        error("a& &b", 1, 1);
        error("a===b", 2, 3);
        error("a<==b", 2, 3);
        read("a<=b");
        read("a<-b");
        read("a!=!b");
        error("a! =b", 2, 1);
        error("a< =b", 2, 3);
        error("a? :b", 2, 3);
        read("a?:b");
        read("a?.b");
        error("a? .b", 2, 3);
        error("a?.5:1", 2, 3);
        read("a? 5:1");
        error("a;b", 1, 1);
        for (String sign : new String[] {"+", "-", "*", "/", "%", "<", ">", "<=", ">=", "==", "!=", "&&", "||", "?:"}) {
            read("1" + sign + "2");
            error("1" + sign, 2, 1 + sign.length());
        }
    }

    private static void grammar() {
        error("", 2, 0);
        error("   ", 2, 3);
        error("1 +", 2, 3);
        error("1 + ", 2, 4);
        error("+1", 2, 0);
        error("--1", 2, 1);
        error("-!a", 2, 1);
        error("!-a", 2, 1);
        error("!!a", 2, 1);
        read("-a--b");
        read("!(!a)");
        read("a<b&&c==d||e!=f");
        error("a==b==c", 2, 4);
        error("1<2<3", 2, 3);
        read("(1<2)==(3<4)");
        read("a+b-c*d/e%f");
        read("a||b||c&&d&&e");
        read("a?b:c");
        error("a?b", 2, 3);
        error("a?b,c", 2, 3);
        error("a?b:", 2, 4);
        error("a?:b:c", 2, 4);
        read("a?b?c:d:e");
        read("a?b:c?d:e");
        read("a?:b?:c");
        error("a:b", 2, 1);
        read("f()");
        read("f(1)");
        read("f(1,2)");
        error("f(1,2,3)", 2, 5);
        error("f(1,2,", 2, 5);
        error("f(,1)", 2, 2);
        error("f(1,)", 2, 4);
        error("f(", 2, 2);
        error("f(1", 2, 3);
        error("f(1 2)", 2, 4);
        error("f()()", 2, 3);
        read("f().g(1)?.h(1,2).i");
        error("(1)(2)", 2, 3);
        error("()", 2, 1);
        error("(1", 2, 2);
        error("1)", 2, 1);
        error("1,2", 2, 1);
        error("#", 2, 1);
        error("#1", 2, 1);
        error("#(a)", 2, 1);
        error("#a(1)", 2, 2);
        read("#true");
        read("#null.false");
        read("true.len");
        error("true(1)", 2, 4);
        error("null()", 2, 4);
        read("a.true(1)");
        read("a?.null");
        error("a.", 2, 2);
        error("a?.", 2, 3);
        error("a.'b'", 2, 2);
        error("a.(b)", 2, 2);
        error(".a", 2, 0);
        read("'a'.len");
        read("(a).b");
    }

    private static void bothSidesOfSet() {
        read("a=1");
        read("#a=1");
        read("a.b=1");
        read("#a.b=1");
        read("a?.b=1");
        read("f(1).b=1");
        read("(a).b=1");
        read("'x'.b=1");
        read("1.b=1");
        read("true.b=1");
        read("a.true=1");
        read("a=b?c:d");
        read("a=(b)");
        error("(a)=1", 2, 3);
        error("(#a)=1", 2, 4);
        error("(a.b)=1", 2, 5);
        error("f(1)=1", 2, 4);
        error("a.f()=1", 2, 5);
        error("1=1", 2, 1);
        error("'x'=1", 2, 3);
        error("true=1", 2, 4);
        error("null=1", 2, 4);
        error("-a=1", 2, 2);
        error("!a=1", 2, 2);
        error("a+b=1", 2, 3);
        error("a?b:c=1", 2, 5);
        error("a?:b=1", 2, 4);
        error("a||b=1", 2, 4);
        error("a==b=1", 2, 4);
        error("a=b=1", 2, 3);
        error("f(a=1)", 2, 3);
        error("(a=1)", 2, 2);
        error("a=", 2, 2);
        error("=a", 2, 0);
    }

    private static void depth() {
        read("((((1))))");
        error("(((((1)))))", 3, 5);
        error("(((( (1)))))", 3, 6);
        error("(((((", 3, 5);
        error("((((((", 3, 5);
        error("((((( ", 3, 6);
        error("(((((+", 3, 5);
        error("(((()", 2, 4);
        read("a?:a?:a?:a?:a");
        error("a?:a?:a?:a?:a?:a", 3, 15);
        read("f(f(f(f(1))))");
        error("f(f(f(f(f(1)))))", 3, 10);
        read("f(f(f(f(f()))))");
        error("f(f(f(f(f(,", 3, 10);
        error("((((f(1))))", 3, 6);
        error("((((f(", 3, 6);
        read("f(1,f(1,f(1,f(1,2))))");
        error("f(1,f(1,f(1,f(1,f(1))))", 3, 18);
        read("1?1?1?1?1:1:1:1:1");
        error("1?1?1?1?1?1:1:1:1:1:1", 3, 10);
        read("1?1:1?1:1?1:1?1:1");
        error("1?1:1?1:1?1:1?1:1?1:1", 3, 18);
        read("((((1))))+((((1))))");
        read("a=((((1))))");
        error("a=(((((1)))))", 3, 7);
        error("(((((1))))) $", 1, 12);
    }

    private static void firstErrorCounts() {
        error("1 2 $", 1, 4);
        error(") 'abc", 1, 2);
        error("$ 1234567", 1, 0);
        error("1234567 $", 1, 0);
        error(") (((((1", 2, 0);
        error("(((((1 )) )", 3, 5);
    }

    /** 40 tokens and the end behind them. */
    private static void fullTexts() {
        String ones = "-1+1-1+1-1+1-1+1-1+1-1+1-1+1-1+1-1+1-1+1";
        Check.same("40 tokens", Desk.of(ones), "0");
        String names = "-1+1-1+1-1+1-1+1-1+1-1+1-1+1-1+1-1+1-1.a";
        read(names);
        error(ones.substring(0, 39) + "+", 2, 39);
        error(ones.substring(1) + "+", 2, 40);
        error("((((1+1-1+1-1+1-1+1-1+1-1+1-1+1-1+1-1+1)", 2, 40);
        error("                                        ", 2, 40);
        error("1                                      $", 1, 39);
        error("                                (((( (( ", 3, 38);
    }

    private static void programs() {
        Desk d = new Desk();
        Check.same("a first program", d.parse("1"), 0);
        Check.same("the text is empty then", d.x().about(0), 0);
        Check.same("an error makes none", d.parse("1 2"), -2002);
        Check.same("the text is empty behind an error", d.x().about(0), 0);
        Check.same("an error 1 too", d.parse("$"), -1000);
        Check.same("the text is empty behind an error 1", d.x().about(0), 0);
        Check.same("programs", d.x().about(1), 1);
        for (int i = 1; i < 40; i++) {
            Check.same("the next program", d.parse("" + i), i);
        }
        Check.same("40 programs", d.x().about(1), 40);
        d.write("(9");
        Check.state("parse with 40 programs", () -> d.x().parse());
        Check.same("the text stays", d.x().about(0), 2);
        Check.same("the first program stays", d.ran(0, -1), "1");
        Check.same("the last program stays", d.ran(39, -1), "39");
        Check.same("a program runs again", d.ran(17, -1), "17");
    }
}
