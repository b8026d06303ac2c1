/** The promises 1 to 10: the tape, FAULTS, and what a parcel has. Numbers are worked out by hand. */
public final class PromisesTest {
    private static final int BAD = TestHouse.BAD, NONE = TestHouse.NONE, FULL = TestHouse.FULL;

    public static void main(String[] args) {
        promise1();
        promise2();
        promise3();
        promise4();
        promise5Tokens();
        promise5Places();
        promise5Twice();
        promise5Meaning();
        promise5Numbers();
        promise5Many();
        promise5Nested();
        promise5Codes();
        promise5Order();
        fullTapes();
        cutTapes();
        promise6();
        promise7();
        promise8();
        promise9();
        promise10();
        Checks.end("PromisesTest");
    }

    /** The FAULT is at the @, which is no byte of the text. */
    private static void fault(int number, String text) {
        Checks.dueFault(text.replace("@", ""), number, text.indexOf('@'));
    }

    private static void fine(String text) {
        Checks.dueNoFault(text);
    }

    private static void promise1() {
        TestHouse x = new TestHouse();
        Checks.due("1: tape", x.cut(0), 0);
        Checks.due("1: parcels", x.count(0, 0), 0);
        Checks.due("1: fault", x.fault(), 0);
        Checks.due("1: STEPS", x.steps(200), 200);
        Checks.due("1: SEED", x.seed(1), 1);
        Checks.due("1: told", x.told(0), BAD);
        Checks.due("1: small", x.small(-2), BAD);
        Checks.due("1: share", x.share(1), BAD);
        Checks.due("1: blamed", x.blamed(0), BAD);
        Checks.due("1: calls", x.calls(0, -1, 0), BAD);
        Checks.due("1: linear", x.linear(0), BAD);
        Checks.due("1: touch", x.touch(0, 0), BAD);
    }

    private static void promise2() {
        TestHouse x = new TestHouse();
        // "unit", " u{}", and blanks: the highest byte first.
        Checks.due("2", x.feed(0x756e6974, 0x20757b7d, 0x20202020, 0x0a0d2020, 0x20202020), 20);
        Checks.due("2: its bytes", x.parcel(), 0);
        Checks.due("2: name", x.name(0, 0, 0, 0), 'u');
        for (int n = 1; n <= 150; n++) {
            Checks.due("2: feed " + n, x.feed(-1, n, 0, 0, 0), 20 * n);
        }
        Checks.due("2: full", x.feed(0, 0, 0, 0, 0), FULL);
        Checks.due("2: cut", x.cut(19), 2981);
        Checks.due("2: full", x.feed(0, 0, 0, 0, 0), FULL);
        Checks.due("2: unchanged", x.cut(1), 2980);
        Checks.due("2: just not full", x.feed(0, 0, 0, 0, 0), 3000);
        Checks.due("2: bytes that are no token", x.parcel(), -10);
        Checks.due("2: fault", x.fault(), 1);
        Checks.due("2: a FAULT leaves no byte", x.feed(0, 0, 0, 0, 0), 20);
    }

    private static void promise3() {
        TestHouse x = new TestHouse();
        Checks.due("3", x.cut(1), BAD);
        Checks.feed(x, "unit u{}unit v{}!!");
        Checks.due("3: below 0", x.cut(-1), BAD);
        Checks.due("3: least int", x.cut(Integer.MIN_VALUE), BAD);
        Checks.due("3: more than there are", x.cut(21), BAD);
        Checks.due("3: some", x.cut(4), 16);
        Checks.due("3: the rest is a parcel", x.parcel(), 0);
        Checks.feed(x, "12345678901234567890");
        Checks.due("3: all", x.cut(20), 0);
    }

    private static void promise4() {
        TestHouse x = new TestHouse();
        for (int n = 0; n < 8; n++) {
            Checks.feed(x, "unit u{}");
            Checks.due("4: number", x.parcel(), n);
            Checks.due("4: the tape is empty", x.cut(0), 0);
            if (n == 3) {
                Checks.feed(x, "unit u{} unit u{}");
                Checks.due("4: a FAULT", x.parcel(), -10 - 14);
                Checks.due("4: the tape is empty behind a FAULT, too", x.cut(0), 0);
                Checks.due("4: nothing to cut", x.cut(1), BAD);
                Checks.due("4: no parcel more", x.count(0, 0), 4);
            }
        }
        Checks.due("4: full, and a FAULT", x.parcel(), FULL);
        Checks.due("4: the FAULT of the one ahead", x.fault(), 0);
        Checks.feed(x, "unit u{}");
        Checks.due("4: full", x.parcel(), FULL);
        Checks.due("4: the tape stays", x.cut(0), 20);
        x = new TestHouse();
        Checks.due("4: nothing", x.parcel(), -10);
        Checks.due("4: nothing", x.fault(), 2);
        Checks.feed(x, "unit u{");
        Checks.due("4: the end", x.parcel(), -10 - 20);
        Checks.due("4: the text with the FAULT is gone", x.parcel(), -10);
        Checks.feed(x, "}");
        Checks.due("4: what is fed behind a FAULT begins anew", x.parcel(), -10);
        Checks.feed(x, "unit u{}");
        Checks.due("4: a PARCEL behind FAULTS", x.parcel(), 0);
        Checks.due("4: no FAULT any more", x.fault(), 0);
        eachFaultEmpties();
    }

    /** FAULTS 1 to 6, one behind the other, on one object: each begins at place 0. */
    private static void eachFaultEmpties() {
        TestHouse x = new TestHouse();
        String[] texts = {"unit u{@!}", "unit u{@1}", "unit u{}unit @u{}", "unit u{start{@a=1;}}", "unit u{row r[@51];}",
            "unit u{start{}@start{}}"};
        for (int n = 0; n < texts.length; n++) {
            Checks.feed(x, texts[n].replace("@", ""));
            Checks.due("4: place " + n, x.parcel(), -10 - texts[n].indexOf('@'));
            Checks.due("4: FAULT " + n, x.fault(), n + 1);
            Checks.due("4: the tape is empty " + n, x.cut(0), 0);
        }
    }

    private static void promise5Tokens() {
        fault(1, "unit @ninechars{}");
        fine("unit eightchr{}");
        fine("unit a2345678{}");
        fault(1, "unit @a23456789{}");
        fault(1, "unit u{const a=@1234567890;}");
        fine("unit u{const a=123456789;}");
        fine("unit u{const a=000000009;}");
        fault(1, "unit u{const a=@1b;}");
        fault(1, "unit u{const a=1@B;}");
        fault(1, "unit @U{}");
        fault(1, "unit u@_{}");
        fault(1, "unit u@\t{}");
        fine("unit\nu\r{ }");
        fault(1, "unit u{fun f(){check 1@!1;}}");
        fine("unit u{fun f(){check 1!=1;}}");
        fault(1, "unit u{fun f(){check 1@>1;}}");
        fault(1, "unit u{}@\u00e9");
        fault(1, "unit u{}@\0");
        fault(1, "@\"");
        fine("unit u{fun f(){check 1<=1;check 1==1;check 1<1;}}");
        fault(2, "unit u{fun f(){check 1<@=1;}}".replace("<@", "< @"));
        fault(2, "unit u{fun f(){check 1==@=1;}}");
        // A word as long as may be is no word any more.
        fault(2, "@units u{}");
        fine("unit u{var units=1;var it=2;var un=3;}");
    }

    private static void promise5Places() {
        fault(2, "@");
        fault(2, "  \n@");
        fault(2, "unit@");
        fault(2, "unit u{@");
        fault(2, "unit u{}@x");
        fault(2, "unit u{}@}");
        fault(2, "unit @unit{}");
        fault(2, "unit u{const a=-@-5;}");
        fine("unit u{const a=- 5;shared b = 0 ; }");
        fault(2, "unit u{const @1=1;}");
        fault(2, "unit u{var a=@b;}");
        fault(2, "unit u{row a[@-1];}");
        fault(2, "unit u{own @start{}}");
        fault(2, "unit u{own @test a{}}");
        fault(2, "unit u{own @own var a=1;}");
        fault(2, "unit u{own @}");
        fine("unit u{own const a=1;own var b=1;own shared c=1;own row d[1];own fun e(){}}");
        fine("unit u{fun f(){}}");
        fault(2, "unit u{fun f(a,@){}}");
        fault(2, "unit u{prop p(@){}}");
        fault(2, "unit u{start@(){}}");
        fault(2, "unit u{test t raises 1 @skip{}}");
        fault(2, "unit u{test t with 1 @raises 1{}}");
        fault(2, "unit u{test t raises @-1{}}");
        fault(2, "unit u{test t with 1,@{}}");
        fault(2, "unit u{test t with @a{}}");
        fine("unit u{test t skip raises 1 with -1,2{}}");
        fault(2, "unit u{fun f(){check 1<2@<3;}}");
        fine("unit u{fun f(){check (1<2)<3;}}");
        fault(2, "unit u{fun f(){check 1+@not 1;}}");
        fault(2, "unit u{fun f(){check 1==@not 1;}}");
        fine("unit u{fun f(){check 1 and not 1 or not not 1<2;}}");
        fault(2, "unit u{fun f(){check f(1,@);}}");
        fault(2, "unit u{fun f(){check f(@,1);}}");
        fault(2, "unit u{fun f(){f()@=1;}}");
        fault(2, "unit u{var a=1;fun f(){a@;}}");
        fault(2, "unit u{var a=1;fun f(){u.a@.a=1;}}");
        fault(2, "unit u{var a=1;fun f(){u.@1=1;}}");
        fault(2, "unit u{row a[2];fun f(){a[1]@;}}");
        fault(2, "unit u{row a[2];fun f(){a[1@;}}");
        fault(2, "unit u{fun f(){@1=2;}}");
        fault(2, "unit u{fun f(){return @;}}");
        fault(2, "unit u{fun f(){while @{}}}");
        fault(2, "unit u{fun f(){if 1{}else@ if 1{}}}".replace("@ ", " @"));
        fault(2, "unit u{fun f(){@else{}}}");
        fault(2, "unit u{fun f(){try{}@let}}");
        fault(2, "unit u{fun f(){try{}catch @{}}}");
        fault(2, "unit u{fun f(){@const a=1;}}");
        fault(2, "unit u{fun f(){check draw @;}}");
        fine("unit u{fun f(){check draw draw -(-1)*-2;}}");
        fault(2, "unit u{fun f(){@;}}");
        fault(2, "unit u{fun f(){@{}}}");
        fault(2, "unit u{fun f(){check (1@;}}");
        fault(2, "unit u{fun f(){check +1;}}".replace("+", "@+"));
    }

    private static void promise5Twice() {
        fault(3, "unit u{}unit @u{}");
        fault(3, "unit u{var a=1;fun @a(){}}");
        fault(3, "unit u{var a=1;test @a{}}");
        fault(3, "unit u{var a=1;prop @a(b){}}");
        fault(3, "unit u{test a{}var @a=1;}");
        fault(3, "unit u{prop a(b){}test @a{}}");
        fault(3, "unit u{test a{}row @a[1];}");
        fine("unit a{var a=1;fun b(a){let b=a;}}unit b{var a=1;fun b(a){}}");
        fault(3, "unit u{fun f(a,@a){}}");
        fault(3, "unit u{fun f(a){let @a=1;}}");
        fault(3, "unit u{prop f(a){if 1{let @a=1;}}}");
        fault(3, "unit u{fun f(){let a=1;if 1{let @a=2;}}}");
        fine("unit u{fun f(){if 1{let a=1;}else{let a=2;}let a=3;}}");
        fault(3, "unit u{test t{let @it=1;}}");
        fine("unit u{fun f(it){}fun g(){let it=1;}start{let it=1;}}");
        fine("unit u{fun f(){try{let a=1;}catch a{}let a=2;}}");
        fault(3, "unit u{fun f(a){try{}catch @a{}}}");
        fault(3, "unit u{fun f(){try{}catch a{let @a=1;}}}");
        fault(3, "unit u{test t{try{}catch @it{}}}");
    }

    private static void promise5Meaning() {
        fault(4, "unit u{fun f(){let a=@a;}}");
        fault(4, "unit u{fun f(){if 1{let a=1;}check @a;}}");
        fault(4, "unit u{before{check @it;}}");
        fault(4, "unit u{prop p(a){check @it;}}");
        fault(4, "unit u{fun f(){check @v.x;}}");
        fault(4, "unit u{fun f(v){check @v.x;}}");
        fault(4, "unit u{fun f(){check u.@x;}}");
        fault(4, "unit u{fun f(){check v.@x;}}unit v{own var x=1;}");
        fine("unit u{fun f(){check v.x;}}unit v{var x=1;own fun g(){check v.x+v.y;}own var y=1;}");
        fault(4, "unit u{fun f(){check v.@g();}}unit v{own fun g(){}}");
        fault(4, "unit u{fun f(){check @x;}}unit v{var x=1;}");
        fault(4, "unit u{const k=1;fun f(){@k=1;}}");
        fine("unit u{var k=1;shared s=1;fun f(a){k=1;s=1;a=1;u.k=2;u.s=3;}}");
        fault(4, "unit u{row r[1];fun f(){check @r;}}");
        fault(4, "unit u{row r[1];fun f(){@r=1;}}");
        fault(4, "unit u{fun f(){check @f;}}");
        fault(4, "unit u{fun f(){@f=1;}}");
        fault(4, "unit u{var v=1;fun f(){check @v[0];}}");
        fault(4, "unit u{const v=1;fun f(){check @v();}}");
        fault(4, "unit u{fun f(){check @f[0];}}");
        fault(4, "unit u{row r[1];fun f(){@r();}}");
        fault(4, "unit u{fun f(a){check @a(1);}}");
        fault(4, "unit u{fun f(a){check @a[1];}}");
        // With [ or ( behind the NAME is that of a member, though a LOCAL has it, too.
        fine("unit u{row r[1];fun f(r){check r[r];r[0]=r;}fun g(f){check f(f);}}");
        fault(4, "unit u{test t{}fun f(){check @t();}}");
        fault(4, "unit u{prop p(a){}fun f(){check @p(1);}}");
        fault(4, "unit u{fun f(){}fun g(){check @f(1);}}");
        fault(4, "unit u{fun f(a,b){}fun g(){check @f(1);}}");
        fault(4, "unit u{fun f(a,b){}fun g(){check u.@f(1,2,3,4,5,6);}}");
        // The fun's NAME stands ahead of those of its arguments.
        fault(4, "unit u{fun f(){}fun g(){check @f(z);}}");
        fault(4, "unit u{fun f(a){}fun g(){check f(@z)+y;}}");
        fault(4, "unit u{var v=1;fun g(){@z=y;}}");
        fault(4, "unit u{var v=1;fun g(){v=@y;w=1;}}");
        fault(4, "unit u{fun f(){return @a;}fun g(){return b;}}");
        fine("unit u{fun f(){return v.g();}}unit v{fun g(){return u.f();}}");
    }

    private static void promise5Numbers() {
        fault(5, "unit u{row r[@0];}");
        fault(5, "unit u{row r[@51];}");
        fine("unit u{row r[1];row s[50];}");
        fault(5, "unit u{test t raises @0{}}");
        fine("unit u{test t raises 1{}test s raises 999999999{}}");
    }

    private static String repeated(int from, int to, String text) {
        StringBuilder out = new StringBuilder();
        for (int i = from; i <= to; i++) {
            out.append(text.replace("#", "" + i));
        }
        return out.toString();
    }

    private static void promise5Many() {
        fine(repeated(1, 8, "unit u#{}"));
        fault(6, repeated(1, 8, "unit u#{}") + "unit @u9{}");
        fault(3, repeated(1, 8, "unit u#{}") + "unit @u8{}");
        String twelve = repeated(1, 3, "const a#=1;var b#=1;shared c#=1;row d#[1];").substring(0);
        fine("unit u{" + twelve + "}unit v{fun f(){}}");
        fault(6, "unit u{" + twelve + "fun @f(){}}");
        fault(6, "unit u{" + twelve + "const @f=1;}");
        fault(3, "unit u{" + twelve + "const @a1=1;}");
        fine("unit u{" + twelve + "start{}before{}after{}test t{}prop p(a){}}");
        fault(6, "unit u{start{}@start{}}");
        fine("unit u{start{}}unit v{start{}}");
        fine("unit u{before{}before{}before{}after{}after{}after{}}unit v{before{}after{}}");
        fault(6, "unit u{before{}before{}before{}@before{}}");
        fault(6, "unit u{after{}after{}after{}@after{}}");
        fine("unit u{fun f(a,b,c,d){}prop p(a,b,c,d){}}");
        fault(6, "unit u{fun f(a,b,c,d,@e){}}");
        fault(3, "unit u{fun f(a,b,c,d,@d){}}");
        fault(6, "unit u{prop p(a,b,c,d,@e){}}");
        fine("unit u{fun f(){" + repeated(1, 10, "let a#=1;") + "}}");
        fault(6, "unit u{fun f(){" + repeated(1, 10, "let a#=1;") + "let @b=1;}}");
        fault(3, "unit u{fun f(){" + repeated(1, 10, "let a#=1;") + "let @a1=1;}}");
        fine("unit u{test t{" + repeated(1, 9, "let a#=1;") + "}}");
        fault(6, "unit u{test t{" + repeated(1, 9, "let a#=1;") + "try{}catch @e{}}}");
        fine("unit u{test t{" + repeated(1, 8, "let a#=1;") + "try{let b=1;}catch e{}if 1{let b=1;}else{let c=1;}}}");
        fine("unit u{test t with 1,-2,3,4{}}");
        fault(6, "unit u{test t with 1,-2,3,4,@-5{}}");
        fault(2, "unit u{test t with 1,-2,3,4,@a{}}");
        fine("unit u{" + repeated(1, 16, "test t#{}") + "}");
        fault(6, "unit u{" + repeated(1, 16, "test t#{}") + "test @t{}}");
        fault(3, "unit u{" + repeated(1, 16, "test t#{}") + "test @t16{}}");
        fault(6, "unit u{" + repeated(1, 4, "test t# with 1,2,3,4{}") + "}unit v{test @t{}}");
        fault(6, "unit u{" + repeated(1, 15, "test t#{}") + "test t with 1,@-2{}}");
        fine("unit u{" + repeated(1, 15, "test t#{}") + "test t with 1{}}");
        fine("unit u{" + repeated(1, 3, "prop p#(a){}") + "}unit v{" + repeated(1, 3, "prop p#(a){}") + "}");
        fault(6, "unit u{" + repeated(1, 3, "prop p#(a){}") + "}unit v{" + repeated(1, 3, "prop p#(a){}") + "prop @p(a){}}");
    }

    private static void promise5Nested() {
        // The { of the fun is the first.
        fine("unit u{fun f(){check " + "(".repeat(19) + "1" + ")".repeat(19) + ";}}");
        fault(6, "unit u{fun f(){check " + "(".repeat(19) + "@(1" + ")".repeat(20) + ";}}");
        fine("unit u{fun f(){check " + "-".repeat(19) + "1;check " + "not ".repeat(19) + "1;}}");
        fault(6, "unit u{fun f(){check " + "-".repeat(19) + "@-1;}}");
        fault(6, "unit u{fun f(){check " + "not ".repeat(19) + "@not 1;}}");
        fault(6, "unit u{fun f(){check " + "draw ".repeat(19) + "@draw 1;}}");
        fault(6, "unit u{fun f(a){check " + "f(".repeat(19) + "f@(1" + ")".repeat(20) + ";}}");
        fault(6, "unit u{fun f(a){" + "f(".repeat(19) + "f@(1" + ")".repeat(20) + ";}}");
        fault(6, "unit u{row r[2];fun f(a){check " + "r[".repeat(19) + "r@[1" + "]".repeat(20) + ";}}");
        fine("unit u{row r[2];fun f(a){" + "r[".repeat(19) + "1" + "]".repeat(19) + "=1;}}");
        fine("unit u{fun f(){" + "if 1{".repeat(19) + "}".repeat(19) + "}}");
        fault(6, "unit u{fun f(){" + "if 1{".repeat(19) + "if 1@{" + "}".repeat(20) + "}}");
        fault(6, "unit u{fun f(){" + "while 1{".repeat(19) + "check @-1;" + "}".repeat(19) + "}}");
        fault(6, "unit u{fun f(){" + "try{".repeat(19) + "f@();" + "}catch a{}".repeat(19) + "}}");
        // What is closed counts no more: the - ends with its FACTOR, not with its BOTH.
        fine("unit u{fun f(){check " + "(".repeat(18) + "-1" + ")".repeat(18) + "+-1*-1 and not 1;}}");
        fine("unit u{fun f(){check not 1 and " + "(".repeat(19) + "1" + ")".repeat(19) + ";}}");
        fault(6, "unit u{fun f(){check not 1+" + "(".repeat(18) + "@(1" + ")".repeat(19) + ";}}");
        fine("unit u{fun f(){check 1-" + "(".repeat(19) + "1" + ")".repeat(19) + ";}}");
        // Those that stand in no BLOCK do not count.
        fine("unit u{const k=-1;row r[3];fun f(a){check " + "(".repeat(19) + "a" + ")".repeat(19) + ";}}");
    }

    private static void promise5Codes() {
        // let a=0: 2; each +1: 2; the end: 2.
        fine("unit u{fun f(){let a=0" + "+1".repeat(98) + ";}}");
        fault(6, "unit u{fun f(){let a=-0" + "+1".repeat(98) + ";@}}");
        fault(6, "unit u{test f{if 1{let a=0" + "+1".repeat(98) + ";}@}}");
        String five = repeated(1, 5, "fun f#(){let a=0" + "+1".repeat(98) + ";}");
        fine("unit u{" + five + "const k=1;}unit v{var a=1;}");
        fault(6, "unit u{" + five + "}unit v{prop p(a){@}}");
        fault(6, "unit u{" + five + "}unit v{before{@}}");
        String lessTwo = repeated(1, 4, "fun f#(){let a=0" + "+1".repeat(98) + ";}") + "fun f5(){let a=0" + "+1".repeat(97)
                + ";}";
        fine("unit u{" + lessTwo + "start{}}");
        fault(6, "unit u{" + lessTwo + "start{}after{@}}");
    }

    private static void promise5Order() {
        // What a NAME means is asked when the whole text can stand.
        fault(1, "unit u{fun f(){x=1;}fun g(){@!}}");
        fault(3, "unit u{fun f(){x=1;}fun @f(){}}");
        fault(2, "unit u{fun f(){x=1;}@");
        fault(6, "unit u{fun f(){x=1;}start{}@start{}}");
        fault(4, "unit u{fun f(){@x=1;}fun g(){y=1;}}");
        TestHouse x = new TestHouse();
        Checks.parcel(x, "unit u{row r[0];}");
        Checks.due("5", x.fault(), 5);
        Checks.due("5: asked again", x.fault(), 5);
        Checks.parcel(x, "unit u{row r[1];}");
        Checks.due("5: none", x.fault(), 0);
    }

    private static void fullTapes() {
        // As many tokens as bytes.
        Checks.dueFault("}".repeat(3000), 2, 0);
        Checks.dueFault("unit u{}" + ";".repeat(2992), 2, 8);
        Checks.dueFault("unit u{start{a=(" + "+1".repeat(1492), 2, 16);
        Checks.dueFault("unit u{start{a=1" + "+1".repeat(1492), 2, 3000);
        Checks.dueFault("unit u{start{a=1" + "+1".repeat(1489) + "; }}", 6, 2996);
        Checks.dueFault("unit u{start{" + "a=b;".repeat(746) + " }}", 6, 2998);
        Checks.dueFault("unit u{start{" + " ".repeat(2987), 2, 3000);
        Checks.dueFault(" ".repeat(2999) + "u", 2, 2999);
        Checks.dueFault(" ".repeat(2999) + "!", 1, 2999);
        fine("unit u{}" + " ".repeat(2984) + "unit v{}");
        StringBuilder text = new StringBuilder("unit u{");
        for (int i = 0; i < 5; i++) {
            text.append("fun f").append(i).append("(){").append("f9();".repeat(99)).append("}");
        }
        Checks.dueFault(text.append("fun g(){} }").toString(), 6, text.lastIndexOf("{}") + 1);
    }

    private static void cutTapes() {
        // The bytes that were cut off do not belong to the token ahead of them.
        TestHouse x = new TestHouse();
        Checks.feed(x, "unit u{var a=12     ");
        Checks.feed(x, "34b!!!!!!!!!!!!!!!!!");
        x.cut(24);
        Checks.due("3: a NUMBER at the end", x.parcel(), -10 - 16);
        Checks.feed(x, "unit v{}      1a9===");
        x.cut(5);
        Checks.due("3: a NUMBER without the letter behind", x.parcel(), -10 - 14);
        Checks.due("3: a NUMBER without the letter behind", x.fault(), 2);
        Checks.feed(x, "unit a234567890a23  ");
        x.cut(7);
        Checks.due("3: a NAME of 8", x.parcel(), -10 - 13);
        Checks.feed(x, "unit v{fun f(){!====");
        x.cut(4);
        Checks.due("3: a sign without the one behind", x.parcel(), -10 - 15);
        Checks.due("3: a sign without the one behind", x.fault(), 1);
    }

    private static final String WHOLE = "unit ab{const k=-3;own var n=5;shared s=7;own row r[9];fun f(a,b){return a;}"
            + "fun g(){}start{}test t1 with 4,-6{}}unit c{var n=1;prop pq(a){}test t2 skip raises 12{check 1;}prop p2(a,b){}}";

    private static void promise6() {
        TestHouse x = Checks.house(WHOLE, "unit z{}");
        Checks.dueRow("6: first", i -> x.count(0, i), 2, 2, 7, 18, 3, 2, 7, BAD);
        Checks.dueRow("6: second", i -> x.count(1, i), 2, 1, 0, 0, 0, 0, 0, BAD);
        Checks.due("6: any parcel", x.count(-5, 0), 2);
        Checks.due("6: no parcel", x.count(2, 1), BAD);
        Checks.due("6: no parcel", x.count(-1, 1), BAD);
        Checks.due("6: what", x.count(0, -1), BAD);
    }

    private static void promise7() {
        TestHouse x = Checks.house(WHOLE);
        Checks.dueRow("7: k", i -> x.member(0, 0, i), 0, 0, 0, -3, NONE, BAD);
        Checks.dueRow("7: n", i -> x.member(0, 1, i), 0, 1, 1, 5, NONE, BAD);
        Checks.dueRow("7: s", i -> x.member(0, 2, i), 0, 2, 0, 7, NONE, BAD);
        Checks.dueRow("7: r", i -> x.member(0, 3, i), 0, 3, 1, 9, NONE, BAD);
        Checks.dueRow("7: f", i -> x.member(0, 4, i), 0, 4, 0, 2, 0, BAD);
        Checks.dueRow("7: g", i -> x.member(0, 5, i), 0, 4, 0, 0, 4, BAD);
        Checks.dueRow("7: the n of c", i -> x.member(0, 6, i), 1, 1, 0, 1, NONE, BAD);
        Checks.due("7: what", x.member(0, 0, -1), BAD);
        Checks.due("7: member", x.member(0, 7, 0), BAD);
        Checks.due("7: member", x.member(0, -1, 0), BAD);
        Checks.due("7: parcel", x.member(1, 0, 0), BAD);
    }

    private static void promise8() {
        TestHouse x = Checks.house(WHOLE);
        Checks.dueRow("8: t1", i -> x.about(0, 0, i), 0, 4, 0, 0, 8, BAD);
        Checks.dueRow("8: t1 once more", i -> x.about(0, 1, i), 0, -6, 0, 0, 8, BAD);
        Checks.dueRow("8: t2", i -> x.about(0, 2, i), 1, 0, 12, 1, 12, BAD);
        Checks.due("8: what", x.about(0, 0, -1), BAD);
        Checks.due("8: CASE", x.about(0, 3, 0), BAD);
        Checks.due("8: CASE", x.about(0, -1, 0), BAD);
        Checks.due("8: parcel", x.about(-1, 0, 0), BAD);
    }

    private static void promise9() {
        TestHouse x = Checks.house(WHOLE, "unit eightchr{}");
        Checks.dueRow("9: ab", i -> x.name(0, 0, 0, i), 'a', 'b', BAD);
        Checks.dueRow("9: c", i -> x.name(0, 0, 1, i), 'c', BAD);
        Checks.dueRow("9: eightchr", i -> x.name(1, 0, 0, i), 'e', 'i', 'g', 'h', 't', 'c', 'h', 'r', BAD);
        Checks.dueRow("9: n", i -> x.name(0, 1, 1, i), 'n', BAD);
        Checks.dueRow("9: t1", i -> x.name(0, 2, 1, i), 't', '1', BAD);
        Checks.dueRow("9: t2", i -> x.name(0, 2, 2, i), 't', '2', BAD);
        Checks.dueRow("9: pq", i -> x.name(0, 3, 0, i), 'p', 'q', BAD);
        Checks.dueRow("9: p2", i -> x.name(0, 3, 1, i), 'p', '2', BAD);
        Checks.due("9: byte", x.name(0, 0, 0, -1), BAD);
        Checks.due("9: what", x.name(0, 4, 0, 0), BAD);
        Checks.due("9: what", x.name(0, -1, 0, 0), BAD);
        Checks.due("9: unit", x.name(0, 0, 2, 0), BAD);
        Checks.due("9: member", x.name(0, 1, 7, 0), BAD);
        Checks.due("9: CASE", x.name(0, 2, 3, 0), BAD);
        Checks.due("9: prop", x.name(0, 3, 2, 0), BAD);
        Checks.due("9: below 0", x.name(0, 3, -1, 0), BAD);
        Checks.due("9: below 0", x.name(0, 0, -1, 0), BAD);
        Checks.due("9: parcel", x.name(2, 0, 0, 0), BAD);
    }

    private static final int[][] CODES = {
        {1, 0}, {1, 1}, {0, 2}, {12, 0}, {10, 0}, {2, 2}, {1, 2}, {22, 0}, {2, 2}, {1, 2}, {0, 7}, {3, 1}, {13, 0},
        {0, 3}, {14, 0}, {11, 0}, {4, 1}, {1, 0}, {1, 1}, {5, 2}, {6, 2}, {0, 1}, {0, 2}, {7, 3}, {9, 0}, {1, 0}, {1, 1},
        {15, 0}, {24, 32}, {0, 1}, {8, 0}, {25, 34}, {3, 1}, {29, 0}, {1, 0}, {1, 1}, {16, 0}, {21, 0}, {24, 50}, {1, 0},
        {1, 1}, {17, 0}, {1, 0}, {1, 1}, {18, 0}, {0, 1}, {19, 0}, {20, 0}, {28, 0}, {25, 34}, {26, 56}, {0, 6}, {23, 0},
        {4, 1}, {27, 0}, {25, 59}, {2, 3}, {1, 3}, {8, 0}, {0, 0}, {8, 0}
    };

    private static void promise10() {
        TestHouse x = Checks.house("unit u{const k=7;var v=1;row r[4];fun f(a,b){let c=a+b*2;c=-c;v=c-k/v%3;r[a]=r[b];"
                + "f(1,2);if a<b{return 1;}else{raise v;}while not(a<=b){check a==b or a!=b and 1;}"
                + "try{v=draw 6;}catch e{return e;}}}", "unit a{var a=4;fun f(){if 1{let x=2;}let y=x.k;x.s=y;let a=a;"
                + "return a+u.a;}}unit x{const k=-9;shared s=1;}".replace("u.a", "a.a"));
        Checks.due("10: how many", x.count(0, 3), CODES.length);
        for (int i = 0; i < CODES.length; i++) {
            Checks.due("10: operation " + i, x.code(0, i, 0), CODES[i][0]);
            Checks.due("10: number " + i, x.code(0, i, 1), CODES[i][1]);
        }
        // What is not seen any more gives its place to the next; a LOCAL is seen behind its ; alone.
        int[][] second = {{0, 1}, {24, 4}, {0, 2}, {2, 0}, {0, -9}, {2, 0}, {1, 0}, {4, 3}, {3, 0}, {2, 1}, {1, 1}, {3, 0},
            {10, 0}, {8, 0}, {0, 0}, {8, 0}};
        Checks.due("10: how many", x.count(1, 3), second.length);
        for (int i = 0; i < second.length; i++) {
            Checks.due("10: operation " + i, x.code(1, i, 0), second[i][0]);
            Checks.due("10: number " + i, x.code(1, i, 1), second[i][1]);
        }
        Checks.due("10: what", x.code(0, 0, 2), BAD);
        Checks.due("10: what", x.code(0, 0, -1), BAD);
        Checks.due("10: instruction", x.code(0, 61, 0), BAD);
        Checks.due("10: instruction", x.code(0, -1, 0), BAD);
        Checks.due("10: parcel", x.code(2, 0, 0), BAD);
    }
}
