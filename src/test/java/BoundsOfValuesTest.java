/** The bounds that RUNNING has for values without objects: wraps, divisions, great REALs, long TEXTs, BOOLs. */
final class BoundsOfValuesTest {
    private static final String MOST = "65536*32768-1";
    private static final String LEAST = "65536*32768";

    public static void main(String[] args) {
        additionWraps();
        divisionRoundsAndWraps();
        remainders();
        divisionsByZero();
        greatRealsOfPlus();
        greatRealsOfMinus();
        greatRealsOfTimes();
        greatRealsOfDivision();
        greatNumbersThatAreNoFailure();
        smallReals();
        longTexts();
        longTextsOfOtherKinds();
        whatPlusTakes();
        whatOtherSignsTake();
        comparisons();
        sameness();
        boolsAlone();
        onlyWhatIsRunFails();
        emptyTexts();
        firstFailureEnds();
        Check.end();
    }

    private static void is(String text, String due) {
        Check.same(text, Desk.of(text), due);
    }

    /** "+ of INTs (wraps)"; "- * of numbers likewise". */
    private static void additionWraps() {
        is(MOST, "2147483647");
        is(LEAST, "-2147483648");
        is(MOST + "+0", "2147483647");
        is(MOST + "+1", "-2147483648");
        is(MOST + "+2", "-2147483647");
        is(LEAST + "-0", "-2147483648");
        is(LEAST + "-1", "2147483647");
        is(LEAST + "-2", "2147483646");
        is("-1+" + LEAST, "2147483647");
        is("-2-(" + MOST + ")", "2147483647");
        is("-1-(" + MOST + ")", "-2147483648");
        is("1-" + LEAST, "-2147483647");
        is("65536*32767", "2147418112");
        is("-65536*32768", "-2147483648");
        is("65536*65535", "-65536");
        is("65536*65536", "0");
        is("46341*46341", "-2147479015");
        is("46340*46340", "2147395600");
        is("(" + LEAST + ")*-1", "-2147483648");
        is("-(" + LEAST + ")", "-2147483648");
        is("-(" + MOST + ")", "-2147483647");
        is("-0", "0");
    }

    /** "/ of INTs rounds towards 0 (wraps)". */
    private static void divisionRoundsAndWraps() {
        is("6/3", "2");
        is("7/3", "2");
        is("8/3", "2");
        is("-7/3", "-2");
        is("-8/3", "-2");
        is("8/-3", "-2");
        is("-8/-3", "2");
        is("1/2", "0");
        is("-1/2", "0");
        is("0/5", "0");
        is("(" + LEAST + ")/-1", "-2147483648");
        is("(" + LEAST + ")/1", "-2147483648");
        is("(" + LEAST + "+1)/-1", "2147483647");
        is("(" + MOST + ")/-1", "-2147483647");
    }

    /** "% of INTs alone, as Java's". */
    private static void remainders() {
        is("7%3", "1");
        is("6%3", "0");
        is("-7%3", "-1");
        is("7%-3", "1");
        is("-7%-3", "-1");
        is("0%3", "0");
        is("2%3", "2");
        is("(" + LEAST + ")%-1", "0");
        is("(" + LEAST + ")%10", "-8");
        is("7.0%3", "failure 1");
        is("7%3.0", "failure 1");
        is("7.0%3.0", "failure 1");
        is("7%0.0", "failure 1");
        is("'7'%3", "failure 1");
        is("true%true", "failure 1");
        is("null%1", "failure 1");
    }

    /** "/ by 0 or 0.0, and % by 0, is failure 2". */
    private static void divisionsByZero() {
        for (String left : new String[] {"1", "0", "-1", LEAST, "1.5", "0.0", "-0.0"}) {
            is("(" + left + ")/0", "failure 2");
            is("(" + left + ")/0.0", "failure 2");
            is("(" + left + ")/-0", "failure 2");
            is("(" + left + ")/-0.0", "failure 2");
        }
        is("1%0", "failure 2");
        is("0%0", "failure 2");
        is("-1%0", "failure 2");
        is("1%(1-1)", "failure 2");
        is("1/(0.5-0.5)", "failure 2");
        is("1/1", "1");
        is("1/-1", "-1");
        is("1%1", "0");
        is("1/0.001", "real 1000000");
        is("1/-0.001", "real -1000000");
        is("0/0.001", "real 0");
        is("0.0/1", "real 0");
    }

    /** A desk whose variable m is 1e12, and n is -1e12. */
    private static Desk great() {
        Desk d = new Desk();
        Check.same("1e12", d.value("#m=100000*10.0*1000*1000"), "real 2147483647");
        Check.same("-1e12", d.value("#n=-100000*10.0*1000*1000"), "real -2147483648");
        Check.same("as great as that", d.value("#m/1000/1000==100000*10"), "true");
        Check.same("as low as that", d.value("#n/1000/1000==-100000*10"), "true");
        return d;
    }

    private static void inside(String text, String due) {
        Desk d = great();
        Check.same(text, d.value("(" + text + ")==" + due), "true");
        Check.same(text, d.value(text + "==null"), "false");
    }

    private static void outside(String text) {
        Desk d = great();
        Check.same(text, d.value(text), "failure 3");
        Check.same("the result of " + text, d.latest(), "null");
    }

    /** "A REAL above 1e12 or below -1e12 that comes of + - * / is failure 3". */
    private static void greatRealsOfPlus() {
        inside("#m+0", "#m");
        inside("#m+0.0", "#m");
        inside("0+#m", "#m");
        inside("#n+0", "#n");
        inside("#m+#n", "0");
        inside("#m/2+#m/2", "#m");
        inside("#n/2+#n/2", "#n");
        outside("#m+0.001");
        outside("#m+1");
        outside("1+#m");
        outside("#m+#m");
        outside("#n+-0.001");
        outside("#n+-1");
        outside("#n+#n");
        outside("#m/2+#m/2+0.001");
    }

    private static void greatRealsOfMinus() {
        inside("#m-0", "#m");
        inside("#n-0", "#n");
        inside("0-#m", "#n");
        inside("0-#n", "#m");
        inside("#m-#m", "0");
        outside("#n-0.001");
        outside("#n-1");
        outside("#m- -0.001");
        outside("#m-#n");
        outside("#n-#m");
        outside("-1-#m");
        outside("1-#n");
    }

    private static void greatRealsOfTimes() {
        inside("#m*1", "#m");
        inside("#m*-1", "#n");
        inside("#n*-1.0", "#m");
        inside("#m*0", "0");
        inside("#m*0.999", "999*(#m/1000)");
        inside("#m/10*10", "#m");
        inside("#n/10*10", "#n");
        outside("#m*1.001");
        outside("1.001*#m");
        outside("#n*1.001");
        outside("#m*-1.001");
        outside("#m*2");
        outside("#m*#m");
        outside("#m*#n");
    }

    private static void greatRealsOfDivision() {
        inside("#m/1", "#m");
        inside("#m/-1", "#n");
        inside("#n/-1.0", "#m");
        inside("#m/2", "#m*0.5");
        inside("#m/10/0.1", "#m");
        outside("#m/0.999");
        outside("#m/-0.999");
        outside("#n/0.999");
        outside("#m/0.001");
        outside("#n/-0.001");
    }

    /** A sign and a comparison are no + - * /; INTs wrap, whatever they come to. */
    private static void greatNumbersThatAreNoFailure() {
        Desk d = great();
        Check.same("- of the least", d.value("-#n==#m"), "true");
        Check.same("- of the greatest", d.value("-#m==#n"), "true");
        Check.same("the greatest", d.value("#m"), "real 2147483647");
        Check.same("a comparison", d.value("#m>#n"), "true");
        Check.same("a wrap", d.value("999999*999999*999999*999999"), "" + wrapped());
    }

    private static int wrapped() {
        return 999999 * 999999 * 999999 * 999999;
    }

    /** A REAL comes to 0 below what a double can hold; that is no failure, and no division by 0 ahead of it. */
    private static void smallReals() {
        Desk d = new Desk();
        d.value("#s=0.001");
        int square = d.parse("#s=#s*#s");
        for (int i = 0; i < 6; i++) {
            Check.same("a square", d.ran(square, Desk.NONE), "real 0");
            Check.same("it is not 0", d.value("#s==0"), "false");
        }
        Check.same("1 by it", d.value("1/#s"), "failure 3");
        Check.same("0 by it", d.value("0/#s"), "real 0");
        Check.same("it by itself", d.value("#s/#s"), "real 1000");
        Check.same("the last square", d.ran(square, Desk.NONE), "real 0");
        Check.same("it is 0", d.value("#s==0"), "true");
        Check.same("1 by 0", d.value("1/#s"), "failure 2");
    }

    /** "if that has more than 16 characters failure 9"; "TEXT (at most 16 characters)". */
    private static void longTexts() {
        is("'1234567'+'12345678'", "'123456712345678'");
        is("'12345678'+'12345678'", "'1234567812345678'");
        is("'12345678'+'12345678'+'9'", "failure 9");
        is("'9'+('12345678'+'12345678')", "failure 9");
        is("'12345678'+'12345678'+''", "'1234567812345678'");
        is("''+('12345678'+'12345678')", "'1234567812345678'");
        is("''+''", "''");
        is("('12345678'+'12345678').len", "16");
        Desk d = new Desk();
        d.value("#t='12345678'+'12345678'");
        Check.same("32 characters", d.value("#t+#t"), "failure 9");
        Check.same("the result", d.latest(), "null");
        Check.same("its 17th", d.value("#t") + d.x().text(15) + d.x().text(16), "'1234567812345678'56-1");
    }

    /** "of a TEXT and a TEXT, INT, BOOL or NULL, or the other way round". */
    private static void longTextsOfOtherKinds() {
        bothWays("null", "null");
        bothWays("true", "true");
        bothWays("false", "false");
        bothWays("0", "0");
        bothWays("-1", "-1");
        bothWays("123456", "123456");
        bothWays("(" + MOST + ")", "2147483647");
        bothWays("(" + LEAST + ")", "-2147483648");
    }

    private static void bothWays(String other, String chars) {
        String sixteen = "abcdefghijklmnop".substring(chars.length());
        Desk d = new Desk();
        d.value("#t='" + sixteen.substring(0, 5) + "'");
        d.value("#t=#t+'" + sixteen.substring(5, Math.min(13, sixteen.length())) + "'");
        d.value("#t=#t+'" + sixteen.substring(Math.min(13, sixteen.length())) + "'");
        Check.same("a TEXT and " + other, d.value("#t+" + other), "'" + sixteen + chars + "'");
        Check.same(other + " and a TEXT", d.value(other + "+#t"), "'" + chars + sixteen + "'");
        d.value("#t=#t+'q'");
        Check.same("a longer TEXT and " + other, d.value("#t+" + other), "failure 9");
        Check.same(other + " and a longer TEXT", d.value(other + "+#t"), "failure 9");
    }

    /** "Kinds that are not as said: failure 1", each with each. */
    private static void whatPlusTakes() {
        String[] values = {"null", "true", "2", "2.5", "'x'"};
        String[][] due = {
            {"failure 1", "failure 1", "failure 1", "failure 1", "'nullx'"},
            {"failure 1", "failure 1", "failure 1", "failure 1", "'truex'"},
            {"failure 1", "failure 1", "4", "real 4500", "'2x'"},
            {"failure 1", "failure 1", "real 4500", "real 5000", "failure 1"},
            {"'xnull'", "'xtrue'", "'x2'", "failure 1", "'xx'"}
        };
        for (int a = 0; a < values.length; a++) {
            for (int b = 0; b < values.length; b++) {
                is(values[a] + "+" + values[b], due[a][b]);
            }
        }
    }

    /** - * / < > <= >= take numbers and nothing else; so does the sign -, and ! a BOOL. */
    private static void whatOtherSignsTake() {
        String[] values = {"null", "true", "'x'", "2", "2.5"};
        String[] signs = {"-", "*", "/", "<", ">", "<=", ">=", "%"};
        for (String sign : signs) {
            for (int a = 0; a < values.length; a++) {
                for (int b = 0; b < values.length; b++) {
                    boolean numbers = a >= 3 && b >= 3 && (!sign.equals("%") || a + b == 6);
                    String got = Desk.of(values[a] + sign + values[b]);
                    Check.same(values[a] + sign + values[b], got.equals("failure 1") ? 0 : 1, numbers ? 1 : 0);
                }
            }
        }
        is("-null", "failure 1");
        is("-true", "failure 1");
        is("-'2'", "failure 1");
        is("-2", "-2");
        is("-2.5", "real -2500");
        is("!null", "failure 1");
        is("!0", "failure 1");
        is("!0.0", "failure 1");
        is("!''", "failure 1");
        is("!true", "false");
        is("!false", "true");
    }

    /** "< > <= >= of numbers": below, the same and above, of INTs, of REALs and of both. */
    private static void comparisons() {
        String[] less = {"1", "0.999", "1", "-1", LEAST, "2.0", "0"};
        String[] more = {"2", "1", "1.001", "0", MOST, "2.001", "0.001"};
        for (int i = 0; i < less.length; i++) {
            compared("(" + less[i] + ")", "(" + more[i] + ")", "true", "false", "true", "false");
            compared("(" + more[i] + ")", "(" + less[i] + ")", "false", "true", "false", "true");
            compared("(" + less[i] + ")", "(" + less[i] + ")", "false", "false", "true", "true");
        }
        compared("2", "2.0", "false", "false", "true", "true");
        compared("0.0", "-0.0", "false", "false", "true", "true");
        compared("(" + MOST + ")", "(65536*32767.0+65535)", "false", "false", "true", "true");
        compared("(" + MOST + ")", "(65536*32767.0+65536)", "true", "false", "true", "false");
        compared("(" + LEAST + ")", "(65536*-32768.0)", "false", "false", "true", "true");
    }

    private static void compared(String a, String b, String less, String more, String atMost, String atLeast) {
        is(a + "<" + b, less);
        is(a + ">" + b, more);
        is(a + "<=" + b, atMost);
        is(a + ">=" + b, atLeast);
    }

    /** "numbers by their value, BOOLs, TEXTs ... if they are the same; NULL with NULL; other kinds are different". */
    private static void sameness() {
        String[] values = {"null", "false", "true", "0", "1", "1.5", "''", "'1'", "'a'", "'null'", "'b'"};
        for (int a = 0; a < values.length; a++) {
            for (int b = 0; b < values.length; b++) {
                is(values[a] + "==" + values[b], a == b ? "true" : "false");
                is(values[a] + "!=" + values[b], a == b ? "false" : "true");
            }
        }
        is("1==1.0", "true");
        is("1.0!=1", "false");
        is("1==1.001", "false");
        is("0.0==-0.0", "true");
        is("0==-0.0", "true");
        is("'ab'=='a'+'b'", "true");
        is("'a'=='A'", "false");
        is("'a'=='a '", "false");
        is("(" + MOST + ")==65536*32767.0+65535", "true");
        is("(" + MOST + ")==65536*32767.0+65534", "false");
        is("(" + MOST + ")==" + LEAST, "false");
    }

    /** "&& || and ? : want BOOLs", on the left, and on the right where that is run. */
    private static void boolsAlone() {
        for (String other : new String[] {"null", "0", "1", "1.5", "''", "'true'"}) {
            is(other + "&&true", "failure 1");
            is(other + "||true", "failure 1");
            is("true&&" + other, "failure 1");
            is("false||" + other, "failure 1");
            is("false&&" + other, "false");
            is("true||" + other, "true");
            is(other + "?1:2", "failure 1");
        }
        is("true&&true", "true");
        is("true&&false", "false");
        is("false||true", "true");
        is("false||false", "false");
        is("true&&true&&false", "false");
        is("false||false||true", "true");
        is("true?1:2", "1");
        is("false?1:2", "2");
    }

    /** "where false (true) of && (||) is the result at once"; "of ? only one choice is run"; "run only then". */
    private static void onlyWhatIsRunFails() {
        is("false&&1/0", "false");
        is("false&&1/0&&a", "false");
        is("true||1/0", "true");
        is("true||1/0||a", "true");
        is("true&&1/0", "failure 2");
        is("false||1/0", "failure 2");
        is("1/0&&false", "failure 2");
        is("1/0||true", "failure 2");
        is("true?7:1/0", "7");
        is("false?1/0:7", "7");
        is("true?1/0:7", "failure 2");
        is("false?7:1/0", "failure 2");
        is("1/0?a:a", "failure 2");
        is("7?:1/0", "7");
        is("null?:1/0", "failure 2");
        is("''?:1/0", "failure 2");
        is("1/0?:7", "failure 2");
    }

    /** "?: is the left, if that is neither NULL nor an empty TEXT, else the right". */
    private static void emptyTexts() {
        is("null?:7", "7");
        is("''?:7", "7");
        is("(''+'')?:7", "7");
        is("' '?:7", "' '");
        is("'a'?:7", "'a'");
        is("0?:7", "0");
        is("0.0?:7", "real 0");
        is("false?:7", "false");
        is("''?:''", "''");
        is("''?:null", "null");
        is("null?:''", "''");
        is("''?:null?:8", "8");
    }

    /** "from left to right; the first FAILURE ends it": what failed on the left goes ahead of the rest. */
    private static void firstFailureEnds() {
        String[] signs = {"+", "-", "*", "/", "%", "<", ">", "<=", ">=", "==", "!=", "&&", "||"};
        for (String sign : signs) {
            is("1/0" + sign + "-''", "failure 2");
            is("(-'')" + sign + "(1/0)", "failure 1");
            is("(null.a)" + sign + "(1/0)", "failure 4");
        }
        is("-(1/0)", "failure 2");
        is("!(1/0)", "failure 2");
        is("(1/0).a", "failure 2");
        is("(1/0)?.a", "failure 2");
        is("(1/0).len", "failure 2");
        is("(1/0).f()", "failure 2");
        is("(1/0)?.f()", "failure 2");
        is("(1/0).f(-'')", "failure 2");
        is("5.f(-'',1/0)", "failure 1");
        is("5.f(1/0,-'')", "failure 2");
        is("5.f(1,1/0)", "failure 2");
        is("null.f(1/0)", "failure 4");
        is("(1/0)?1:2", "failure 2");
        is("#a=1/0", "failure 2");
    }
}
