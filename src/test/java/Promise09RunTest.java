/** Promise 9: run: what every kind of expression comes to, and its failures. */
final class Promise09RunTest {
    public static void main(String[] args) {
        wrongInputs();
        literals();
        calculating();
        reals();
        joining();
        comparing();
        sameness();
        logic();
        choosing();
        properties();
        calls();
        setting();
        order();
        whatIsSetStays();
        Check.end();
    }

    private static void is(String text, String due) {
        Check.same(text, Desk.of(text), due);
    }

    private static void wrongInputs() {
        Desk d = new Desk();
        Check.argument("no program", () -> d.x().run(0, -1));
        d.parse("5");
        Check.argument("program 1", () -> d.x().run(1, -1));
        Check.argument("program -1", () -> d.x().run(-1, -1));
        Check.argument("no object", () -> d.x().run(0, 0));
        d.type(-1).make(0);
        Check.argument("object 1", () -> d.x().run(0, 1));
        Check.argument("object -2", () -> d.x().run(0, -2));
        Check.same("the result is NULL still", d.latest(), "null");
        Check.same("run answers 0", d.x().run(0, 0), 0);
        Check.same("the result", d.latest(), "5");
        Check.argument("object 30", () -> d.x().run(0, 30));
        Check.same("the result stays", d.latest(), "5");
        Check.same("a failure", d.value("1/0"), "failure 2");
        Check.same("the result of a failure", d.latest(), "null");
    }

    private static void literals() {
        is("0", "0");
        is("999999", "999999");
        is("000123", "123");
        is("1.5", "real 1500");
        is("0.12", "real 120");
        is("12.125", "real 12125");
        is("999999.999*0.001", "real 999999");
        is("'a B'", "'a B'");
        is("''", "''");
        is("true", "true");
        is("false", "false");
        is("null", "null");
        is("#true", "null");
    }

    private static void calculating() {
        is("1+2*3", "7");
        is("(1+2)*3", "9");
        is("7-2-1", "4");
        is("100/10/5", "2");
        is("7/2*2", "6");
        is("-7/2", "-3");
        is("7/-2", "-3");
        is("-7%3", "-1");
        is("7%-3", "1");
        is("2--3", "5");
        is("-(2)", "-2");
        is("999999*999999", "-729379967");
        is("65536*32768", "-2147483648");
        is("65536*32768-1", "2147483647");
        is("65536*32768/-1", "-2147483648");
        is("65536*32768%-1", "0");
        is("-(65536*32768)", "-2147483648");
        is("1/0", "failure 2");
        is("1%0", "failure 2");
        is("1+true", "failure 1");
        is("null+null", "failure 1");
        is("true+true", "failure 1");
        is("null+1", "failure 1");
        is("'a'-1", "failure 1");
        is("'3'*2", "failure 1");
        is("null/0", "failure 1");
        is("true%0", "failure 1");
        is("-true", "failure 1");
        is("-'1'", "failure 1");
        is("-null", "failure 1");
        is("!1", "failure 1");
        is("!null", "failure 1");
        is("!true", "false");
        is("!false", "true");
    }

    private static void reals() {
        is("1+0.5", "real 1500");
        is("0.5+1", "real 1500");
        is("1.5-2", "real -500");
        is("3*1.5", "real 4500");
        is("7/2.0", "real 3500");
        is("7.0/2", "real 3500");
        is("-1.5", "real -1500");
        is("1/0.0", "failure 2");
        is("1.0/0", "failure 2");
        is("1.0/-0.0", "failure 2");
        is("0.0/0.0", "failure 2");
        is("5.0%2", "failure 1");
        is("5%2.0", "failure 1");
        is("5.0%0", "failure 1");
        is("1.5+true", "failure 1");
        is("1.5*null", "failure 1");
        is("999999.0*999999", "real 2147483647");
        is("1000000", "error -1000");
        is("100000.0*100000*100", "real 2147483647");
        is("100000.0*100000*100+0.001", "failure 3");
        is("-100000.0*100000*100-0.001", "failure 3");
        is("-100000.0*100000*100", "real -2147483648");
        is("100000.0*100000*100.001", "failure 3");
        is("100000.0*100000/0.01", "real 2147483647");
        is("100000.0*100000/0.001", "failure 3");
        is("1/3.0*3", "real 1000");
    }

    private static void joining() {
        is("'a'+'b'", "'ab'");
        is("'a'+1", "'a1'");
        is("1+'a'", "'1a'");
        is("-1+'a'", "'-1a'");
        is("'a'+true", "'atrue'");
        is("false+'a'", "'falsea'");
        is("'a'+null", "'anull'");
        is("null+'a'", "'nulla'");
        is("''+''", "''");
        is("1+2+'a'+1+2", "'3a12'");
        is("'a'+1.5", "failure 1");
        is("1.5+'a'", "failure 1");
        is("'12345678'+'12345678'", "'1234567812345678'");
        is("'12345678'+'12345678'+''", "'1234567812345678'");
        is("'12345678'+'12345678'+'x'", "failure 9");
        is("'12345678'+'12345678'+1", "failure 9");
        is("'1234567'+65536*32768", "failure 9");
        is("'12345'+65536*32768", "'12345-2147483648'");
        is("'123456'+65536*32768", "failure 9");
        Desk d = new Desk().type(-1).method(0, "me", 0, 0, 4, 0).make(0);
        Check.same("a TEXT and an object", d.value("'a'+me()", 0), "failure 1");
        Check.same("an object and a TEXT", d.value("me()+'a'", 0), "failure 1");
        Check.same("objects", d.value("me()+me()", 0), "failure 1");
    }

    private static void comparing() {
        is("1<2", "true");
        is("2<2", "false");
        is("2<=2", "true");
        is("3<=2", "false");
        is("3>2", "true");
        is("2>2", "false");
        is("2>=2", "true");
        is("1>=2", "false");
        is("1<1.5", "true");
        is("1.5>2", "false");
        is("1.0<=1", "true");
        is("0.999>=1", "false");
        is("1<'2'", "failure 1");
        is("'1'<'2'", "failure 1");
        is("true>=false", "failure 1");
        is("null<=null", "failure 1");
        is("1>null", "failure 1");
        is("'1'<2", "failure 1");
        is("true<2", "failure 1");
        is("65536*32768<0", "true");
    }

    private static void sameness() {
        is("1==1", "true");
        is("1==2", "false");
        is("1!=2", "true");
        is("1!=1", "false");
        is("1==1.0", "true");
        is("1.5==1", "false");
        is("1.5==1.25", "false");
        is("0.0==-0.0", "true");
        is("true==true", "true");
        is("true==false", "false");
        is("'a'=='a'", "true");
        is("'a'=='b'", "false");
        is("''!=''", "false");
        is("null==null", "true");
        is("null!=null", "false");
        is("null==0", "false");
        is("null==''", "false");
        is("null==false", "false");
        is("true==1", "false");
        is("'1'==1", "false");
        is("'a'!=null", "true");
        Desk d = new Desk().type(-1).type(-1).method(0, "me", 0, 0, 4, 0).make(0).make(0).make(1);
        Check.same("an object with itself", d.value("me()==me()", 1), "true");
        Check.same("keeping it", d.value("#o=me()", 1), "object 1 of 0");
        Check.same("the same object", d.value("#o==me()", 1), "true");
        Check.same("another object", d.value("#o==me()", 0), "false");
        Check.same("another object is different", d.value("#o!=me()", 0), "true");
        Check.same("an object and its number", d.value("#o==1", 0), "false");
        Check.same("an object and NULL", d.value("#o==null", 0), "false");
    }

    private static void logic() {
        is("true&&true", "true");
        is("true&&false", "false");
        is("false&&true", "false");
        is("false||true", "true");
        is("true||false", "true");
        is("false||false", "false");
        is("false&&1/0", "false");
        is("true||1/0", "true");
        is("true&&1/0", "failure 2");
        is("false||1/0", "failure 2");
        is("true&&1", "failure 1");
        is("false||'x'", "failure 1");
        is("1&&true", "failure 1");
        is("null||true", "failure 1");
        is("true||false&&false", "true");
        is("false&&1||true", "true");
        is("1<2&&2<3", "true");
        is("1==1==true", "error -2004");
        is("1/0&&true", "failure 2");
        is("'x'&&1/0", "failure 1");
    }

    private static void choosing() {
        is("true?1:1/0", "1");
        is("false?1/0:2", "2");
        is("1?1:2", "failure 1");
        is("null?1:2", "failure 1");
        is("1/0?1:2", "failure 2");
        is("false?1:false?2:3", "3");
        is("true?false?1:2:3", "2");
        is("1?:1/0", "1");
        is("null?:2", "2");
        is("''?:2", "2");
        is("'a'?:2", "'a'");
        is("false?:2", "false");
        is("0?:2", "0");
        is("0.0?:2", "real 0");
        is("null?:''?:null", "null");
        is("1/0?:2", "failure 2");
        is("null?:1/0", "failure 2");
    }

    private static void properties() {
        is("a", "failure 4");
        is("null.a", "failure 4");
        is("null?.a", "null");
        is("#y?.b.c", "failure 4");
        is("#y?.b?.c", "null");
        is("a?.b", "failure 4");
        is("'abc'.len", "3");
        is("''.len", "0");
        is("'abc'?.len", "3");
        is("'abc'.lem", "failure 5");
        is("'abc'.len.len", "failure 5");
        is("5.len", "failure 5");
        is("1.5.len", "failure 5");
        is("true.len", "failure 5");
        is("5?.a", "failure 5");
        is("('a'+'b').len+1", "3");
        Desk d = new Desk().type(-1).type(0).field(0, "a", Desk.ANY).field(1, "true", Desk.ANY).make(1).make(0);
        Check.same("set", d.value("a='text'", 0), "'text'");
        Check.same("a field of an ancestor", d.value("a.len", 0), "4");
        Check.same("len is no property of an object", d.value("len", 0), "failure 5");
        Check.same("no such field", d.value("b", 0), "failure 5");
        Check.same("of another object", d.value("a", 1), "null");
        Check.same("true is true", d.value("true", 0), "true");
        Check.same("a field of NULL", d.value("a.a", 1), "failure 4");
        Check.same("a field of NULL behind ?.", d.value("a?.a", 1), "null");
    }

    private static void calls() {
        is("f()", "failure 4");
        is("null.f(1/0)", "failure 4");
        is("null?.f(1/0)", "null");
        is("null?.f().g()", "failure 4");
        is("5.f()", "failure 5");
        is("5.f(1/0)", "failure 2");
        is("'x'.len()", "failure 5");
        is("'x'?.f(1,1%0)", "failure 2");
        Desk d = new Desk().type(-1).method(0, "f", Desk.ANY, Desk.ANY, 3, 0).method(0, "me", 0, 0, 4, 0).make(0);
        Check.same("a chain", d.value("me().me()?.f(1,f(2,3))", 0), "6");
        Check.same("left goes first", d.value("f(1/0,a)", 0), "failure 2");
        Check.same("then right", d.value("f(a,1/0)", 0), "failure 5");
        Check.same("arguments before the method", d.value("g(1/0)", 0), "failure 2");
        Check.same("no such method", d.value("g(1)", 0), "failure 8");
        Check.same("a method is no property", d.value("me", 0), "failure 5");
    }

    private static Desk settable() {
        Desk d = new Desk().type(-1).type(0).field(0, "i", Desk.INT).field(0, "t", Desk.TEXT).field(0, "o", 8);
        d.field(0, "p", 9).field(0, "x", Desk.ANY).method(0, "me", 0, 0, 4, 0);
        return d.make(1).make(0);
    }

    private static void setting() {
        Desk d = settable();
        Check.same("an INT", d.value("i=4", 0) + d.value("i", 0), "44");
        Check.same("a REAL does not fit", d.value("i=4.5", 0), "failure 6");
        Check.same("it stays", d.value("i", 0), "4");
        Check.same("NULL fits no INT", d.value("i=null", 0), "failure 6");
        Check.same("NULL fits TEXT", d.value("t=null", 0), "null");
        Check.same("NULL fits a class", d.value("o=null", 0), "null");
        Check.same("a descendant fits", d.value("o=me()", 0), "object 0 of 1");
        Check.same("its own class fits", d.value("p=me()", 0), "object 0 of 1");
        Check.same("an ancestor does not", d.value("p=me()", 1), "failure 6");
        Check.same("ANY", d.value("x=1.5", 0) + d.value("x=null", 0), "real 1500null");
        Check.same("an object of an object", d.value("o.p.i=8", 0) + d.value("i", 0), "88");
        Check.same("a method's result", d.value("me().i=9", 0) + d.value("i", 0), "99");
        Desk e = settable();
        Check.same("no such field", e.value("q=1", 0), "failure 5");
        Check.same("no such field goes ahead of the right", e.value("q=1/0", 0), "failure 5");
        Check.same("the right fails", e.value("i=1/0", 0), "failure 2");
        Check.same("of NULL", e.value("i=1/0"), "failure 4");
        Check.same("of NULL behind a point", e.value("o.i=1/0", 0), "failure 4");
        Check.same("of NULL behind ?.", e.value("o?.i=1", 0), "failure 4");
        Check.same("of a TEXT", e.value("'x'.len=1", 0), "failure 5");
        Check.same("of an INT", e.value("1.i=1", 0), "failure 5");
        Check.same("of what failed with 5", e.value("q.i=1", 0), "failure 4");
        Check.same("of what failed with 2", e.value("(1/0).i=1", 0), "failure 4");
        e.converter(Desk.REAL, Desk.TEXT);
        Check.same("the result is what was set", e.value("t=7.5", 0) + e.value("t", 0), "'7''7'");
        e.converter(Desk.TEXT, Desk.INT);
        Check.same("a TEXT that is not as said", e.value("i='a'", 0), "failure 10");
        Check.same("a variable is not converted", e.value("#v=7.5") + e.value("#v"), "real 7500real 7500");
    }

    private static void order() {
        is("1/0+(null).a", "failure 2");
        is("null.a+1/0", "failure 4");
        is("true*(1/0)", "failure 2");
        is("'x'-a", "failure 4");
        is("1/0==a", "failure 2");
        is("(1<'x')+1/0", "failure 1");
        is("#v=1/0", "failure 2");
    }

    private static void whatIsSetStays() {
        Desk d = settable();
        d.value("#v=3");
        Check.same("a failure", d.value("#v+1/0"), "failure 2");
        Check.same("it stays", d.value("#v"), "3");
        Check.same("set again", d.value("#v=#v+1") + d.value("#v"), "44");
        Check.same("a failed set", d.value("#v=a"), "failure 4");
        Check.same("leaves it", d.value("#v"), "4");
    }
}
