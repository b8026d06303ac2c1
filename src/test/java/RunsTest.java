/** The promises 11 to 22: runs and DOUBLES, and what the machine does in them. Numbers are worked out by hand. */
public final class RunsTest {
    private static final int BAD = TestHouse.BAD, NONE = TestHouse.NONE, FULL = TestHouse.FULL;

    public static void main(String[] args) {
        promise11();
        promise12();
        promise13();
        promises14To16();
        sharedInRuns();
        order();
        promises17And18();
        numbers();
        failures();
        tries();
        openCodes();
        starts();
        startFailures();
        stepsThatAreLeft();
        promise19();
        promise20();
        promise21();
        promise22();
        doublesInRuns();
        Checks.end("RunsTest");
    }

    /** A CASE alone: its VERDICT, FAILURE, WHERE, STEPS. */
    private static void alone(TestHouse x, int c, int verdict, int failure, int where, int steps) {
        Checks.due("CASE " + c + " alone", x.alone(0, c), verdict);
        Checks.due("FAILURE of CASE " + c, x.told(0), failure);
        Checks.due("WHERE of CASE " + c, x.told(1), where);
        Checks.due("STEPS of CASE " + c, x.told(2), steps);
    }

    private static void passes(String unitText, String test) {
        TestHouse x = Checks.house("unit u{" + unitText + "test t{" + test + "}}");
        Checks.due(test + " passes", x.alone(0, 0), 1);
    }

    private static void fails(String unitText, String test, int failure) {
        TestHouse x = Checks.house("unit u{" + unitText + "test t{" + test + "}}");
        Checks.due(test + " fails", x.alone(0, 0), 2);
        Checks.due(test + " fails by", x.told(0), failure);
    }

    private static void promise11() {
        TestHouse x = Checks.house("unit u{test t{while 1{}}}");
        Checks.due("11: below", x.steps(0), BAD);
        Checks.due("11: above", x.steps(1001), BAD);
        Checks.due("11: least int", x.steps(Integer.MIN_VALUE), BAD);
        Checks.due("11: were", x.steps(1), 200);
        alone(x, 0, 2, 6, 1, 1);
        Checks.due("11: were", x.steps(1000), 1);
        alone(x, 0, 2, 6, 1, 1000);
        Checks.due("11: were", x.steps(5), 1000);
        alone(x, 0, 2, 6, 2, 5);
    }

    private static void promise12() {
        TestHouse x = Checks.house("unit u{test t{check draw 100000==16838;check draw 10;}test s{check draw 7==0;}}");
        // 1 * 1103515245 + 12345 = 1103527590, that >>> 16 = 16838.
        Checks.due("12: were", x.seed(1), 1);
        Checks.due("12: passes", x.alone(0, 0), 1);
        Checks.due("12: DRAWS", x.told(3), 2);
        Checks.due("12: were", x.seed(-5), 1);
        Checks.due("12: another", x.alone(0, 0), 2);
        Checks.due("12: were", x.seed(0), -5);
        // 12345 >>> 16 = 0.
        Checks.due("12: 0", x.alone(0, 1), 1);
        Checks.due("12: were", x.seed(Integer.MIN_VALUE), 0);
        Checks.due("12: were", x.seed(3), Integer.MIN_VALUE);
    }

    private static void promise13() {
        TestHouse x = Checks.house("unit u{test a{}test b{}test c{}}", "unit v{}");
        Checks.due("13", x.swap(0, 0, 2), 2);
        Checks.due("13: the same", x.swap(0, 1, 1), 1);
        Checks.due("13: again", x.swap(0, 2, 1), 1);
        Checks.due("13: now 2, 0, 1", x.swap(0, 1, 1), 0);
        Checks.due("13: place", x.swap(0, 3, 0), BAD);
        Checks.due("13: place", x.swap(0, 0, 3), BAD);
        Checks.due("13: place", x.swap(0, -1, 0), BAD);
        Checks.due("13: place", x.swap(0, 0, -1), BAD);
        Checks.due("13: parcel", x.swap(2, 0, 0), BAD);
        Checks.due("13: no CASES", x.swap(1, 0, 0), BAD);
        Checks.due("13: nothing changed", x.swap(0, 0, 0), 2);
    }

    private static final String VERDICTS = "unit u{shared s=0;before{s=s+1;if s==3{raise 9;}}after{if s==4{raise 8;}}"
            + "after{if s==5{raise 7;}if s==4{raise 6;}}test a{}test b{check 0;}test c{}test d{}test e raises 5{check 0;}"
            + "test f raises 4{}test g raises 4{raise 4;}test h skip{}test i{while 1{}}test j raises 6{while 1{}}}";

    private static void promises14To16() {
        TestHouse x = Checks.house(VERDICTS, "unit v{}");
        Checks.due("15: no run", x.verdict(0, 0, 0), NONE);
        Checks.due("16: no run", x.cover(0, 0, 0), NONE);
        Checks.due("15: BAD first", x.verdict(0, 10, 0), BAD);
        Checks.due("16: BAD first", x.cover(0, 64, 0), NONE);
        Checks.due("16: BAD first", x.cover(0, 66, 0), BAD);
        Checks.due("14: parcel", x.run(2), BAD);
        Checks.due("14: parcel", x.run(-1), BAD);
        Checks.due("14: no CASES", x.run(1), 0);
        Checks.due("14: PASSED", x.run(0), 3);
        Checks.dueRow("15: VERDICT", c -> x.verdict(0, c, 0), 1, 2, 3, 4, 4, 2, 1, 5, 2, 1, BAD);
        Checks.dueRow("15: FAILURE", c -> x.verdict(0, c, 1), 0, 5, 9, 6, 7, 4, 0, 0, 6, 0, BAD);
        Checks.dueRow("15: WHERE", c -> x.verdict(0, c, 2), NONE, 37, 9, 31, 25, NONE, NONE, NONE, 57, NONE);
        Checks.dueRow("15: STEPS", c -> x.verdict(0, c, 3), 28, 28, 26, 28, 24, 28, 28, 0, 200, 200);
        Checks.due("15: what", x.verdict(0, 0, 4), BAD);
        Checks.due("15: what", x.verdict(0, 0, -1), BAD);
        Checks.due("15: CASE", x.verdict(0, -1, 0), BAD);
        Checks.due("15: parcel", x.verdict(2, 0, 0), BAD);
        Checks.due("16: the before", x.cover(0, 0, 0), 9);
        Checks.due("16: its raise", x.cover(0, 9, 0), 1);
        Checks.due("16: an after", x.cover(0, 20, 1), 7);
        Checks.due("16: b", x.cover(0, 36, 0), 1);
        Checks.due("16: c", x.cover(0, 40, 0), 0);
        Checks.due("16: c", x.cover(0, 40, 1), 0);
        Checks.due("16: a loop", x.cover(0, 56, 0), 64);
        Checks.due("16: a loop's end", x.cover(0, 57, 0), 63);
        Checks.due("16: a loop, in one CASE", x.cover(0, 56, 1), 1);
        Checks.due("16: what", x.cover(0, 0, 2), BAD);
        Checks.due("16: what", x.cover(0, 0, -1), BAD);
        Checks.due("16: instruction", x.cover(0, -1, 0), BAD);
        Checks.due("16: parcel", x.cover(3, 0, 0), BAD);
        // What is told of a run stays, whatever else is called and set.
        x.steps(7);
        x.alone(0, 0);
        x.kill(0);
        x.run(1);
        Checks.due("15: stays", x.verdict(0, 0, 3), 28);
        Checks.due("16: stays", x.cover(0, 0, 0), 9);
        Checks.due("14: with 7 STEPS", x.run(0), 0);
        Checks.due("15: anew", x.verdict(0, 0, 0), 3);
        Checks.due("15: anew, j in its before", x.verdict(0, 9, 0), 3);
        Checks.due("15: where", x.verdict(0, 0, 2), 7);
        Checks.due("16: anew", x.cover(0, 0, 0), 9);
        Checks.due("16: anew", x.cover(0, 10, 0), 0);
    }

    private static void sharedInRuns() {
        TestHouse x = Checks.house("unit u{shared s=3;var v=3;row r[2];test a{s=s+1;v=v+1;r[0]=r[0]+1;check s==4;check v==4;"
                + "check r[0]==1;}test b{s=s+1;v=v+1;r[0]=r[0]+1;check v==4;check r[0]==1;check s==5;}}");
        Checks.due("14: the shared go on, the others not", x.run(0), 2);
        Checks.due("14: a run begins with what is told", x.run(0), 2);
        Checks.due("17: alone", x.alone(0, 1), 2);
    }

    private static void order() {
        TestHouse x = Checks.house("unit u{shared s=0;test a{s=s+1;check s==2;}test b{s=s+1;check s==1;}}");
        Checks.due("14: as numbered", x.run(0), 0);
        x.swap(0, 0, 1);
        Checks.due("14: in its ORDER", x.run(0), 2);
        Checks.due("15: by its number", x.verdict(0, 0, 3), 10);
        Checks.due("16", x.cover(0, 0, 0), 1);
    }

    private static void promises17And18() {
        TestHouse x = Checks.house(VERDICTS);
        Checks.due("18: without one", x.told(0), BAD);
        Checks.due("17: CASE", x.alone(0, 10), BAD);
        Checks.due("17: CASE", x.alone(0, -1), BAD);
        Checks.due("17: parcel", x.alone(1, 0), BAD);
        Checks.due("18: still without", x.told(1), BAD);
        alone(x, 2, 1, 0, NONE, 28);
        alone(x, 1, 2, 5, 37, 28);
        alone(x, 7, 5, 0, NONE, 0);
        alone(x, 5, 2, 4, NONE, 28);
        Checks.due("17: BAD", x.alone(0, 10), BAD);
        Checks.due("18: stays", x.told(0), 4);
        x.run(0);
        Checks.due("18: stays", x.told(2), 28);
        Checks.due("18: what", x.told(4), BAD);
        Checks.due("18: what", x.told(-1), BAD);
        Checks.due("15: alone() is no run()", Checks.house(VERDICTS).verdict(0, 0, 0), NONE);
        TestHouse y = Checks.house("unit u{before{draw2();}fun draw2(){return draw 5+draw 5;}test t{try{check draw 0;}"
                + "catch e{draw2();}}after{draw2();}}");
        Checks.due("18: DRAWS", y.alone(0, 0), 1);
        Checks.due("18: DRAWS that gave a number", y.told(3), 6);
    }

    private static void numbers() {
        passes("", "check 2147483==2147483;check 999999999*999999999==808348673;");
        passes("", "check -7/2==-3;check -7%2==-1;check 7/-2==-3;check 7%-2==1;");
        passes("", "let m=-2147483*1000-648;check m<0;check -m==m;check m/-1==m;check m%-1==0;check m-1==2147483*1000+647;");
        passes("", "check 2 and -1;check not(0 or 0);check (3 or 0)==1;check not 0==1;check (not 5)==0;check (0 and 1)==0;");
        passes("", "check 1<2;check 2<=2;check not 2<2;check not 3<=2;check 2==2;check 2!=3;check -1<0;");
        passes("", "check 10-3-4==3;check 100/10/5==2;check 2+3*4==14;check -2*3==-6;check - -2==2;");
        passes("fun f(a,b,c,d){return a*1000+b*100+c*10+d;}", "check f(1,2,3,4)==1234;");
        passes("row r[3];", "check r[2]==0;r[2]=5;r[r[2]-5]=r[2]+1;check r[0]==6;check r[1]==0;");
        passes("fun f(){}", "check f()==0;");
        passes("", "let i=0;let s=0;while i<5{i=i+1;if i%2{s=s+i;}else{s=s+10;}}check s==29;");
        // Both parts of and, or are done.
        fails("", "check 1 or 1/0;", 1);
        fails("", "check 0 and 1/0;", 1);
        TestHouse x = Checks.house("unit u{test t with 0,-3,7{check it==0 or it==-3 or it==7;it=it*2;check it!=14;}test s{check it==0;}}");
        Checks.due("15: it", x.run(0), 3);
        Checks.due("15: it", x.verdict(0, 2, 0), 2);
    }

    private static void failures() {
        fails("", "check 1/0;", 1);
        fails("", "check 1%0;", 1);
        fails("row r[3];", "check r[3];", 2);
        fails("row r[3];", "check r[-1];", 2);
        fails("row r[3];", "r[3]=1;", 2);
        fails("", "check draw 0;", 3);
        fails("", "check draw -1;", 3);
        fails("", "check 0;", 5);
        fails("", "raise 0;", 0);
        fails("", "raise -77;", -77);
        fails("fun f(){raise 12;}fun g(){return f()+1;}", "g();", 12);
        TestHouse x = Checks.house("unit u{test a raises 1{raise 1;}test b raises 1{raise 2;}test c raises 1{}test d raises 4{}"
                + "test e raises 7{raise 7;}test f raises 2{raise 0;}}");
        alone(x, 0, 1, 0, NONE, 2);
        alone(x, 1, 2, 2, 5, 2);
        alone(x, 2, 2, 4, NONE, 2);
        alone(x, 3, 2, 4, NONE, 2);
        alone(x, 4, 1, 0, NONE, 2);
        alone(x, 5, 2, 0, 17, 2);
        // x stays at a DRAW below 1.
        passes("", "try{check draw 0;}catch e{check e==3;}check draw 100000==16838;");
    }

    private static void tries() {
        passes("", "try{check 0;}catch e{check e==5;return 1;}check 0;");
        passes("", "try{try{raise 3;}catch e{check e==3;raise e+1;}}catch f{check f==4;return 0;}raise 9;");
        fails("", "try{raise 3;}catch e{raise e;}", 3);
        fails("", "try{}catch e{}check 0;", 5);
        passes("fun f(a){try{return 1/a;}catch e{return 100+e;}}", "check f(0)==101;check f(1)==1;");
        passes("fun f(a){return 1/a;}", "let x=7;try{x=5+f(0)*2;}catch e{check e==1;check x==7;x=9;}check x==9;");
        // What was caught in a code that was left does not catch any more.
        fails("fun f(){try{return 1;}catch e{}}", "f();check 0;", 5);
        passes("", "let i=0;while i<3{try{i=i+1;raise i;}catch e{check e==i;}}check i==3;");
        // RAISE of 6 and 7 is caught.
        passes("", "try{raise 6;}catch e{check e==6;}try{raise 7;}catch e{check e==7;}");
        fails("fun f(){return f();}", "try{f();}catch e{return 1;}", 7);
        fails("", "try{while 1{}}catch e{return 1;}", 6);
        TestHouse x = Checks.house("unit u{fun f(){return f();}test t raises 7{f();}after{raise 3;}test s raises 6{while 1{}}}");
        // After a 7 the afters are done, after a 6 nothing more.
        Checks.due("14: 7", x.alone(0, 0), 4);
        Checks.due("14: 7", x.told(0), 3);
        Checks.due("14: 6", x.alone(0, 1), 1);
    }

    private static void openCodes() {
        String f = "fun f(n){if n==0{return 0;}return f(n-1);}";
        passes(f, "check f(10)==0;");
        fails(f, "f(11);", 7);
        TestHouse x = Checks.house("unit u{" + f + "test t{f(20);}}");
        // f: LOAD PUSH EQ JUMPZ PUSH RETURN LOAD PUSH SUB CALL RETURN ..: 11 of f, 8 STEPS each, behind 2 of t.
        alone(x, 0, 2, 7, 9, 2 + 11 * 8);
        // A START is a code that is open.
        TestHouse y = Checks.house("unit u{" + f.replace("return 0", "return v.x") + "test a{check f(9)==3;}test b{check f(10)==3;}"
                + "test c{check v.x==3;check f(10)==3;}}unit v{var x=2;start{x=3;}}");
        Checks.due("START: the 12th", y.alone(0, 0), 1);
        Checks.due("START: the 13th", y.alone(0, 1), 2);
        Checks.due("START: the 13th", y.told(0), 8);
        Checks.due("START: the 13th", y.told(1), 4);
        Checks.due("START: had begun", y.alone(0, 2), 1);
        // Without a code nothing is open.
        TestHouse z = Checks.house("unit u{" + f.replace("return 0", "return v.x") + "test a{check f(10)==2;}}unit v{var x=2;}");
        Checks.due("START without a code", z.alone(0, 0), 1);
        // A CALL sees to the START ahead of its own code.
        TestHouse w = Checks.house("unit u{" + f.replace("return 0", "return v.g()") + "test a{f(10);}test b{check v.x;f(10);}"
                + "}unit v{var x=2;fun g(){}start{}}");
        Checks.due("START ahead of CALL", w.alone(0, 0), 2);
        Checks.due("START ahead of CALL", w.told(0), 8);
        Checks.due("CALL", w.alone(0, 1), 2);
        Checks.due("CALL", w.told(0), 7);
    }

    private static void starts() {
        TestHouse x = Checks.house("unit u{test a{check v.n==6;check v.n==6;v.n=9;check v.s==1;}test b{check v.k==3;}"
                + "test c{check v.n==6;check v.s==2;check v.r[1]==8;}}"
                + "unit v{const k=3;var n=5;shared s=0;row r[2];start{n=n+1;s=s+1;r[1]=8;}}");
        Checks.due("START", x.run(0), 3);
        // The GET waits for 4 + 4 + 3 + 2 STEPS and is one itself; then PUSH EQ CHECK ..
        Checks.due("START: STEPS", x.verdict(0, 0, 3), 13 + 4 + 4 + 2 + 4 + 2);
        Checks.due("START: not for a const", x.verdict(0, 1, 3), 6);
        Checks.due("START: once in a CASE", x.cover(0, 37, 0), 2);
        Checks.due("START: the one that waited began once", x.cover(0, 0, 0), 1);
        // Units that use one another in their STARTS see each other begun.
        passes("var a=1;start{a=v.b+1;}", "check a==21;check v.b==20;}}unit v{var b=10;start{b=u.a*20;}fun f(){");
        // PUT, ROWPUT and CALL see to it, too.
        passes("row r[2];var a=3;start{a=4;r[0]=1;}", "r[1]=2;check r[0]==1;");
        passes("var a=3;var b=0;start{a=4;b=a;}", "a=5;check b==4;check a==5;");
        passes("var a=3;start{a=4;}fun f(){return a;}", "check f()==4;");
        TestHouse y = Checks.house("unit u{var a=3;before{a=a+1;}start{a=7;}test t{check a==8;a=1;}after{check a==1;}}");
        Checks.due("START: one state for a CASE", y.run(0), 1);
    }

    private static void startFailures() {
        TestHouse x = Checks.house("unit u{test a{check v.n;}test b{try{v.f();}catch e{check e==8;}v.n=1;}"
                + "test c{try{v.f();}catch e{check e==8;}try{check v.r[0];}catch e{check e==9;return 0;}check 0;}"
                + "test d{check v.k;}test e{try{v.n=1;}catch e{check e==8;}check w.n;}}"
                + "unit v{const k=1;var n=1;row r[1];fun f(){}start{n=2;raise 7;}}unit w{var n=1;start{n=v.n;}}");
        // a: GET PUSH PUT PUSH RAISE.
        alone(x, 0, 2, 8, 0, 5);
        Checks.due("START: 9", x.alone(0, 1), 2);
        Checks.due("START: 9", x.told(0), 9);
        Checks.due("START: 8 and 9 are caught", x.alone(0, 2), 1);
        Checks.due("START: const", x.alone(0, 3), 1);
        Checks.due("START: a START that fails by 9", x.alone(0, 4), 2);
        Checks.due("START: is an 8 outside", x.told(0), 8);
        // A 7 in a START is an 8, and is caught.
        passes("fun f(){return f();}", "try{check v.n;}catch e{check e==8;return 1;}check 0;}}unit v{var n=1;start{u.f();}fun f(){");
        // A 6 in a START ends the CASE.
        TestHouse y = Checks.house("unit u{test t{try{check v.n;}catch e{return 1;}}after{raise 1;}}unit v{var n=1;start{while 1{}}}");
        alone(y, 0, 2, 6, 14, 200);
    }

    private static void stepsThatAreLeft() {
        TestHouse x = Checks.house("unit u{before{}test t{}after{}after{raise 5;}test s raises 6{while 1{}}}");
        // 2 STEPS of the before, 2 of the test, 2 of the later after, 2 of the first one.
        x.steps(8);
        alone(x, 0, 4, 5, 7, 8);
        x.steps(4);
        alone(x, 0, 4, 6, 6, 4);
        x.steps(5);
        alone(x, 0, 4, 6, 7, 5);
        x.steps(3);
        alone(x, 0, 2, 6, 3, 3);
        x.steps(2);
        alone(x, 0, 2, 6, 2, 2);
        alone(x, 1, 1, 0, NONE, 2);
        x.steps(1);
        alone(x, 0, 3, 6, 1, 1);
        alone(x, 1, 3, 6, 1, 1);
        // The last STEP of a START, and the one that waited goes on.
        TestHouse y = Checks.house("unit u{test t{v.f();}}unit v{start{}fun f(){}}");
        y.steps(3);
        alone(y, 0, 2, 6, 6, 3);
        y.steps(7);
        alone(y, 0, 2, 6, 3, 7);
    }

    private static void promise19() {
        TestHouse x = Checks.house("unit u{var v=1;fun a(){}fun b(){}fun c(){}fun d(){}fun e(){}fun f(){}fun g(){}fun h(){}fun i(){}}",
                "unit u{fun a(){}}");
        Checks.due("19: no fun", x.twin(0, 0), BAD);
        Checks.due("19: member", x.twin(0, 10), BAD);
        Checks.due("19: member", x.twin(0, -1), BAD);
        Checks.due("19: parcel", x.twin(2, 0), BAD);
        for (int n = 0; n < 7; n++) {
            Checks.due("19: number", x.twin(0, n + 1), n);
        }
        Checks.due("19: it has one", x.twin(0, 1), NONE);
        Checks.due("19: of another parcel", x.twin(1, 0), 7);
        Checks.due("19: full", x.twin(0, 9), FULL);
        Checks.due("19: it has one, ahead of full", x.twin(1, 0), NONE);
        Checks.due("19: no fun, ahead of full", x.twin(0, 0), BAD);
        Checks.due("21", x.drop(3), 0);
        Checks.due("19: of all that were made", x.twin(0, 4), 8);
        Checks.due("19: full", x.twin(0, 9), FULL);
        Checks.due("21", x.drop(0), 0);
        Checks.due("19: of all that were made", x.twin(0, 9), 9);
    }

    private static void promise20() {
        TestHouse x = Checks.house("unit u{fun a(b,c){}fun d(){}}");
        x.twin(0, 0);
        x.twin(0, 1);
        Checks.due("20: DOUBLE", x.rule(2, 0, 0, false, 0), BAD);
        Checks.due("20: DOUBLE", x.rule(-1, 0, 0, false, 0), BAD);
        Checks.due("20: DOUBLE", x.rule(NONE, 0, 0, false, 0), BAD);
        Checks.due("20: argument", x.rule(0, 2, 0, false, 0), BAD);
        Checks.due("20: argument", x.rule(0, -2, 0, false, 0), BAD);
        Checks.due("20: argument", x.rule(1, 0, 0, false, 0), BAD);
        Checks.due("20: none", x.rule(1, -1, 0, true, 0), 1);
        for (int n = 1; n <= 8; n++) {
            Checks.due("20: how many", x.rule(0, n % 3 - 1, n, n % 2 == 0, n), n);
        }
        Checks.due("20: full", x.rule(0, 0, 0, false, 0), FULL);
        Checks.due("20: BAD ahead of full", x.rule(0, 2, 0, false, 0), BAD);
    }

    private static void promise21() {
        TestHouse x = Checks.house("unit u{fun a(){return 1;}test t{check a()==1;}}");
        x.twin(0, 0);
        x.rule(0, -1, 0, false, 5);
        x.rule(0, -1, 0, false, 6);
        Checks.due("21: a DOUBLE", x.alone(0, 0), 2);
        Checks.due("21: DOUBLE", x.drop(1), BAD);
        Checks.due("21: DOUBLE", x.drop(-1), BAD);
        Checks.due("21: its RULES", x.drop(0), 2);
        Checks.due("21: its number", x.drop(0), BAD);
        Checks.due("21: its number", x.rule(0, -1, 0, false, 1), BAD);
        Checks.due("21: its number", x.calls(0, -1, 0), BAD);
        Checks.due("21: no DOUBLE", x.alone(0, 0), 1);
        Checks.due("21: a new one", x.twin(0, 0), 1);
        Checks.due("21: without the RULES", x.alone(0, 0), 1);
        Checks.due("21: no number of none", x.drop(NONE), BAD);
    }

    private static void promise22() {
        TestHouse x = Checks.house("unit u{fun f(a,b){return a-b;}test t{let i=0;while i<it{i=i+1;f(i,-i);}}"
                + "test s with 3{check f(it,it)==0;check f(2,1)==7;}test r with 55{let i=0;while i<it{i=i+1;f(i,0);}}}",
                "unit v{test t{}}");
        x.steps(1000);
        x.twin(0, 0);
        x.rule(0, 0, 2, false, 7);
        Checks.due("22: no run", x.calls(0, -1, 0), 0);
        Checks.due("22: none", x.calls(0, 0, 0), BAD);
        Checks.due("17", x.alone(0, 1), 1);
        Checks.due("22: how many", x.calls(0, -1, 0), 2);
        Checks.due("22: how many, whatever else", x.calls(0, -1, 99), 2);
        Checks.dueRow("22: the first", i -> x.calls(0, 0, i - 1), NONE, 3, 3, BAD);
        Checks.dueRow("22: the second", i -> x.calls(0, 1, i - 1), 0, 2, 1, BAD);
        Checks.due("22: what", x.calls(0, 0, -2), BAD);
        Checks.due("22: no such", x.calls(0, 2, 0), BAD);
        Checks.due("22: no such", x.calls(0, -2, 0), BAD);
        Checks.due("22: DOUBLE", x.calls(1, -1, 0), BAD);
        Checks.due("17", x.alone(0, 2), 1);
        Checks.due("22: all are counted", x.calls(0, -1, 0), 55);
        Checks.due("22: the 50th", x.calls(0, 49, 0), 50);
        Checks.due("22: the 51st", x.calls(0, 50, 0), BAD);
        Checks.due("22: BAD leaves it", x.alone(0, 3), BAD);
        x.kill(0);
        x.luck(0, 1);
        x.blame(0, 1);
        Checks.due("22: others leave it", x.calls(0, -1, 0), 55);
        x.run(1);
        Checks.due("22: a run() of any parcel", x.calls(0, -1, 0), 0);
        x.run(0);
        Checks.due("22: in all its CASES", x.calls(0, -1, 0), 57);
        x.alone(1, 0);
        Checks.due("22: an alone() of any parcel", x.calls(0, -1, 0), 0);
    }

    private static void doublesInRuns() {
        TestHouse x = Checks.house("unit u{var n=0;fun f(a,b){n=n+1;return a+b;}fun g(a){if a==0{return f(0,0);}return g(a-1);}"
                + "test a{check f(1,2)==3;check n==1;}test b{check f(1,2)==50;check n==0;}"
                + "test c{try{f(4,1);}catch e{check e==6;return 1;}check 0;}test d{check g(9)==60;}test e{f(9,9);}"
                + "test h raises 8{v.f();}after{check 1;}}unit v{start{raise 1;}fun f(){}}");
        Checks.due("20: without", x.run(0), 3);
        Checks.due("20: a and d, without", x.verdict(0, 3, 0), 2);
        x.twin(0, 1);
        x.rule(0, 1, 2, false, 50);
        x.rule(0, 0, 4, true, 6);
        x.rule(0, 1, 0, false, 60);
        x.rule(0, 0, 9, true, 7);
        x.twin(0, 3);
        x.rule(1, -1, 0, false, 1);
        Checks.due("20: a", x.alone(0, 0), 2);
        Checks.due("20: b", x.alone(0, 1), 1);
        Checks.due("20: no code was begun", x.told(2), 16);
        // A RULE's 6 is caught and ends no CASE.
        Checks.due("20: c", x.alone(0, 2), 1);
        Checks.due("20: d, however many are open", x.alone(0, 3), 1);
        Checks.due("20: e", x.alone(0, 4), 2);
        Checks.due("20: by the RULE", x.told(0), 7);
        // A START that fails: no CALL was had.
        Checks.due("20: h", x.alone(0, 5), 1);
        Checks.due("22: h", x.calls(1, -1, 0), 0);
        x.rule(0, -1, 0, false, 3);
        Checks.due("20: the last that fits", x.alone(0, 0), 2);
        Checks.due("22: the last that fits", x.calls(0, 0, -1), 4);
    }
}
