import java.io.IOException;

/**
 * Each sentence of "2 CODE", "3 RUNS" and of the promises 11 to 22 that names a boundary, as it stands in the document,
 * and what it asks for just ahead of the boundary, at it and behind it.
 */
public final class EdgesRunTest {
    private static final int BAD = TestHouse.BAD, NONE = TestHouse.NONE, FULL = TestHouse.FULL;
    private static final int LEAST = Integer.MIN_VALUE, GREATEST = Integer.MAX_VALUE;
    private static final int[] FAR = {LEAST, -2, -1, 99, GREATEST};
    private static final String ENDS = "fun max(){return 2147483*1000+647;}fun min(){return -max()-1;}";

    public static void main(String[] args) throws IOException {
        Checks.readDocument(args);
        bothParts();
        codes();
        jumps();
        runningOver();
        towardsZero();
        truth();
        byZero();
        byIndex();
        byDraw();
        byCheck();
        bySteps();
        byDepth();
        raised();
        caught();
        notCaught();
        draws();
        manyCells();
        manyOperands();
        starts();
        startsThatFail();
        startsOfTheThirteenth();
        steps();
        cases();
        life();
        verdicts();
        failuresAndPlaces();
        noStepLeft();
        ordersAndAlone();
        doubles();
        rulesThatFit();
        promise11();
        promise12();
        promise13();
        promise14();
        promise15();
        promise16();
        promise17();
        promise18();
        promise19();
        promise20();
        promise21();
        promise22();
        Checks.duePromises(11, 22);
        Checks.end("EdgesRunTest");
    }

    /** What an EXPR is: a test RAISES it. */
    private static void value(String members, String expr, long want) {
        TestHouse x = Checks.house("unit u{" + members + "test t{raise " + expr + ";}}");
        Checks.due(expr + " comes", x.alone(0, 0), 2);
        Checks.due(expr + " is", x.told(0), want);
        Checks.due(expr + " is raised at its end", x.told(1), x.count(0, 3) - 3);
    }

    private static void fails(String members, String test, int failure) {
        TestHouse x = Checks.house("unit u{" + members + "test t{" + test + "}}");
        Checks.due(test + " fails", x.alone(0, 0), 2);
        Checks.due(test + " fails by", x.told(0), failure);
    }

    private static void passes(String members, String test) {
        TestHouse x = Checks.house("unit u{" + members + "test t{" + test + "}}");
        Checks.due(test + " passes", x.alone(0, 0), 1);
        Checks.due(test + " has no FAILURE", x.told(0), 0);
        Checks.due(test + " has no WHERE", x.told(1), NONE);
    }

    /** A CASE alone: its VERDICT, FAILURE, WHERE, STEPS. */
    private static void alone(TestHouse x, int c, int verdict, int failure, int where, int steps) {
        Checks.due("CASE " + c + " alone", x.alone(0, c), verdict);
        Checks.dueRow("told of CASE " + c, x::told, failure, where, steps);
    }

    // ---- 2 CODE

    private static void bothParts() {
        Checks.says("+ - * / % < <= == != and or, behind both parts: ADD SUB MUL DIV MOD LT LE EQ NE AND OR (both parts are done).");
        fails("", "check 1 or 1/0;", 1);
        fails("", "check 0 and 1/0;", 1);
        fails("", "check 0 and 0 and draw 0;", 3);
        fails("", "check 1/0 or draw 0;", 1);
        value("var v=0;fun f(){v=v+1;return v;}", "(f() or f())+(0 and f())*0+f()", 1 + 4);
        value("", "10-3-4", 3);
        value("", "100/10/5", 2);
        value("", "100%30%7", 3);
        value("", "2+3*4-1", 13);
        value("", "1 or 0 and 0", 1);
        value("", "not 1==2", 1);
    }

    private static void codes() {
        Checks.says("Each BLOCK of a member is a code of its own; instructions of all codes are numbered in the order of the text, from 0.");
        TestHouse x = Checks.house("unit u{test t{}fun f(a){}start{}after{}before{}prop p(a){}}unit v{fun g(){check 1;}}");
        Checks.due("t", x.about(0, 0, 4), 0);
        Checks.due("f", x.member(0, 0, 4), 2);
        Checks.due("g", x.member(0, 1, 4), 12);
        Checks.due("all", x.count(0, 3), 16);
        Checks.says("A code ends with PUSH 0, RETURN.");
        for (int i = 0; i < 12; i += 2) {
            Checks.due("PUSH", x.code(0, i, 0) * 10 + x.code(0, i, 1), 0);
            Checks.due("RETURN", x.code(0, i + 1, 0), 8);
        }
        value("fun f(){}", "f()", 0);
        value("fun f(){return 7;return 8;}", "f()", 7);
    }

    private static void jumps() {
        Checks.says("if: the EXPR, JUMPZ behind its BLOCK (with else: behind the JUMP that then follows it and goes behind the second "
                + "BLOCK). while: the EXPR, JUMPZ behind all, the BLOCK, JUMP to the EXPR.");
        TestHouse x = Checks.house("unit u{start{if 1{}if 2{}else{}while 3{}try{}catch e{}}}");
        int[][] due = {{0, 1}, {24, 2}, {0, 2}, {24, 5}, {25, 5}, {0, 3}, {24, 8}, {25, 5}, {26, 11}, {27, 0}, {25, 12}, {2, 0},
            {0, 0}, {8, 0}};
        Checks.due("how many", x.count(0, 3), due.length);
        for (int i = 0; i < due.length; i++) {
            Checks.due("operation " + i, x.code(0, i, 0), due[i][0]);
            Checks.due("number " + i, x.code(0, i, 1), due[i][1]);
        }
        for (int n : new int[] {0, 1, -1, 7}) {
            value("fun f(a){if a{return 5;}return 6;}", "f(" + n + ")", n == 0 ? 6 : 5);
            value("fun f(a){if a{return 5;}else{return 6;}return 7;}", "f(" + n + ")", n == 0 ? 6 : 5);
        }
        value("fun f(a){let s=0;while a{s=s+a;a=a-1;}return s;}", "f(4)*100+f(0)", 1000);
        value("fun f(a){let s=0;while a{s=s+a;a=a+1;}return s;}", "f(-3)", -6);
    }

    private static void runningOver() {
        Checks.says("Numbers have 32 bits, running over;");
        value(ENDS, "max()", GREATEST);
        value(ENDS, "min()", LEAST);
        value(ENDS, "max()+1", LEAST);
        value(ENDS, "min()-1", GREATEST);
        value(ENDS, "max()+max()", -2);
        value(ENDS, "min()+min()", 0);
        value(ENDS, "-min()", LEAST);
        value(ENDS, "-max()", -GREATEST);
        value(ENDS, "min()*-1", LEAST);
        value(ENDS, "max()*max()", 1);
        value(ENDS, "max()*2", -2);
        value("", "999999999*999999999", 808348673);
        value(ENDS + "var v=0;row r[1];fun f(a){return a;}", "f(max()+1)+0*(0-v)-r[0]", LEAST);
    }

    private static void towardsZero() {
        Checks.says("/ and % go towards 0;");
        int[][] due = {{7, 2, 3, 1}, {-7, 2, -3, -1}, {7, -2, -3, 1}, {-7, -2, 3, -1}, {1, 2, 0, 1}, {-1, 2, 0, -1}, {0, 5, 0, 0},
            {6, 3, 2, 0}, {-6, 3, -2, 0}, {5, 1, 5, 0}, {5, -1, -5, 0}};
        for (int[] d : due) {
            value("", d[0] + "/" + d[1], d[2]);
            value("", d[0] + "%" + d[1], d[3]);
        }
        value(ENDS, "min()/-1", LEAST);
        value(ENDS, "min()%-1", 0);
        value(ENDS, "min()/max()", -1);
        value(ENDS, "min()%max()", -1);
        value(ENDS, "min()/2", -1073741824);
    }

    private static void truth() {
        Checks.says("comparisons, and, or, not tell 1 or 0, what is not 0 counting as true.");
        int[] numbers = {-2, -1, 0, 1, 2};
        for (int a : numbers) {
            for (int b : numbers) {
                value("", a + "<" + b, a < b ? 1 : 0);
                value("", a + "<=" + b, a <= b ? 1 : 0);
                value("", a + "==" + b, a == b ? 1 : 0);
                value("", a + "!=" + b, a != b ? 1 : 0);
                value("", a + " and " + b, a != 0 && b != 0 ? 1 : 0);
                value("", a + " or " + b, a != 0 || b != 0 ? 1 : 0);
            }
            value("", "not " + a, a == 0 ? 1 : 0);
            value("", "not not " + a, a == 0 ? 0 : 1);
        }
        value(ENDS, "min()<max()", 1);
        value(ENDS, "max()<min()", 0);
        value(ENDS, "min()<=min()", 1);
        value(ENDS, "max()<max()", 0);
        value(ENDS, "min() and max()", 1);
        value(ENDS, "not min()", 0);
    }

    private static void byZero() {
        Checks.says("1 / or % by 0;");
        for (String text : new String[] {"1/0", "0/0", "1%0", "0%0", "min()/0", "min()%0", "1/(2-2)", "1%-0"}) {
            fails(ENDS, "check " + text + ";", 1);
        }
        value("", "0/1+0%1", 0);
    }

    private static void byIndex() {
        Checks.says("2 an index that its row does not have;");
        for (int size : new int[] {1, 2, 50}) {
            String row = ENDS + "row r[" + size + "];";
            for (String bad : new String[] {"-1", "" + size, "min()", "max()", "" + (size + 1)}) {
                fails(row, "check r[" + bad + "];", 2);
                fails(row, "r[" + bad + "]=1;", 2);
            }
            value(row, "r[0]+r[" + (size - 1) + "]", 0);
            passes(row, "r[0]=4;r[" + (size - 1) + "]=5;check r[" + (size - 1) + "]==5;check r[0]==" + (size == 1 ? 5 : 4) + ";");
        }
        // The index and the EXPR are done ahead of it.
        fails("row r[1];", "r[5]=1/0;", 1);
        fails("row r[1];", "r[draw 0]=1/0;", 3);
        passes("row r[2];var v=3;", "try{r[2]=9;}catch e{check e==2;}check r[0]==0;check r[1]==0;check v==3;");
    }

    private static void byDraw() {
        Checks.says("3 DRAW of a number below 1 (x stays);");
        for (String text : new String[] {"0", "-1", "min()", "(1-1)"}) {
            fails(ENDS, "check draw " + text + ";", 3);
            value(ENDS + "fun f(){try{let a=draw " + text + ";}catch e{return 0;}return 1;}", "f()+draw 100000", 16838);
        }
        value("", "draw 1", 0);
        value("", "draw 1+draw 1", 0);
        value(ENDS, "draw max()", 16838);
    }

    private static void byCheck() {
        Checks.says("5 CHECK of 0;");
        fails("", "check 0;", 5);
        fails("", "check -0;", 5);
        fails("", "check 1-1;", 5);
        passes(ENDS, "check 1;check -1;check 2;check min();check max();");
    }

    private static void bySteps() {
        Checks.says("6 an instruction would begin and no STEP is left (then nothing more of the CASE is done, whatever is around);");
        TestHouse x = Checks.house("unit u{test t{check 1;check 1;}test s{try{while 1{}}catch e{return 1;}}after{raise 3;}}"
                + "unit v{test r{check 1;check 1;}test q{try{while 1{}}catch e{return 1;}}}");
        x.steps(6);
        alone(x, 2, 1, 0, NONE, 6);
        x.steps(5);
        alone(x, 2, 2, 6, x.about(0, 2, 4) + 5, 5);
        x.steps(1);
        alone(x, 2, 2, 6, x.about(0, 2, 4) + 1, 1);
        x.steps(200);
        // No TRY catches it, and no after is done.
        alone(x, 1, 2, 6, x.about(0, 1, 4) + 2, 200);
        alone(x, 3, 2, 6, x.about(0, 3, 4) + 2, 200);
        // Through codes that were CALLED, too.
        TestHouse y = Checks.house("unit u{fun f(){try{while 1{}}catch e{return 1;}}test t{try{f();}catch e{return 1;}}after{raise 3;}}");
        Checks.due("6", y.alone(0, 0), 2);
        Checks.dueRow("6", y::told, 6, 3, 200, 0);
    }

    private static void byDepth() {
        Checks.says("7 a CALL whose code would be the 13th that is open;");
        String f = "fun f(n){if n==0{return 0;}return f(n-1);}";
        passes(f, "check f(9)==0;check f(10)==0;");
        fails(f, "f(11);", 7);
        fails(f, "f(12);", 7);
        fails("fun f(){f();}", "f();", 7);
        fails("fun f(){g();}fun g(){f();}", "f();", 7);
        // A prop, a before, an after is the first that is open, too.
        TestHouse x = Checks.house("unit u{" + f + "prop p(a){f(10);}prop q(a){f(11);}before{f(10);}after{f(10);}test t{}}"
                + "unit v{before{u.f(11);}test t{}}unit w{after{u.f(11);}test t{}}");
        Checks.due("prop", x.property(0, 0, 1), 1);
        Checks.due("prop", x.property(0, 1, 1), 0);
        Checks.due("by 7", x.small(-1), 7);
        x.steps(1000);
        Checks.due("before and after", x.alone(0, 0), 1);
        Checks.due("before", x.alone(0, 1), 3);
        Checks.due("by 7", x.told(0), 7);
        Checks.due("after", x.alone(0, 2), 4);
        Checks.due("by 7", x.told(0), 7);
    }

    private static void raised() {
        Checks.says("RAISE: the number itself, whatever it is.");
        int[] numbers = {0, -1, 1, 4, 5, 8, 9, 10, 13, 14, 999999999, -999999999};
        for (int n : numbers) {
            value("", "" + n, n);
            value("fun f(a){try{raise a;}catch e{return e;}return 77;}", "f(" + n + ")", n);
        }
        value(ENDS, "min()", LEAST);
        value(ENDS + "fun f(a){try{raise a;}catch e{return e;}}", "f(min())", LEAST);
        // A RAISE of 0 is a failure like any other.
        fails("", "raise 0;", 0);
    }

    private static void caught() {
        Checks.says("TRY: what fails in its BLOCK (also in codes that it CALLS) is caught by the innermost one around,");
        String f = "fun f(a){try{try{raise a;}catch e{return e*10;}}catch g{return 9;}}";
        value(f, "f(3)", 30);
        value("fun f(a){try{try{raise a;}catch e{raise e*10;}}catch g{return g+1;}}", "f(3)", 31);
        value("fun f(a){try{}catch e{return 1;}raise a;}fun g(a){try{f(a);}catch e{return e+5;}}", "g(3)", 8);
        value("fun f(a){try{raise 1;}catch e{}raise a;}fun g(a){try{f(a);}catch e{return e+5;}}", "g(3)", 8);
        value("fun f(a){raise a;}fun h(a){f(a);return 1;}fun g(a){try{return 2+h(a)*3;}catch e{return e+5;}}", "g(3)", 8);
        // LOCALS stay as they were, and what the codes around have half done.
        value("fun f(a){try{raise a;}catch e{return e*2;}}", "7+f(3)*f(4)", 55);
        value("fun f(a){let b=1;let c=2;let d=3;let g=4;let h=5;let i=6;let j=7;let k=8;try{check draw 0;}catch e"
                + "{return a+10*(b+10*(c+10*(d+10*(g+10*(h+10*(i+10*(j+10*k)))))))+e;}}", "f(6)-9", 876543210);
        value("fun f(a){let b=5;try{let c=7;g(a);}catch e{let d=3;return a*1000+b*100+d*10+e;}}fun g(a){let b=9;let c=8;raise a+b-c;}",
                "f(1)*1+f(2)", 1532 + 2533);
        value("fun f(a,b,c,d){try{raise a;}catch e{return a*1000+b*100+c*10+d+e;}}", "f(1,2,3,4)", 1235);
        // An empty BLOCK, and one that is left in its midst.
        value("fun f(){try{}catch e{return 1;}return 2;}", "f()", 2);
        fails("fun f(){try{return 3;}catch e{return 1;}return 2;}", "f();raise 4;", 4);
        for (String bad : new String[] {"check 1/0;1", "check r[1];2", "check draw 0;3", "check 0;5", "v.n=1;8"}) {
            int cut = bad.lastIndexOf(';');
            passes("row r[1];", "try{" + bad.substring(0, cut + 1) + "}catch e{check e==" + bad.substring(cut + 1)
                    + ";return 0;}raise 1;}}unit v{var n=1;start{raise 1;}test t{");
        }
    }

    private static void notCaught() {
        Checks.says("but 6 and 7, unless a RAISE, or a RULE (below), told them: the LOCAL of catch is the number.");
        fails("fun f(){f();}", "try{f();}catch e{return 0;}", 7);
        fails("fun f(){try{f();}catch e{return 0;}}", "try{f();}catch e{return 0;}", 7);
        fails("", "try{while 1{}}catch e{return 0;}", 6);
        passes("", "try{raise 6;}catch e{check e==6;}try{raise 7;}catch e{check e==7;}");
        passes("fun f(a){raise a;}", "try{f(6);}catch e{check e==6;}try{f(7);}catch e{check e==7;}");
        TestHouse x = Checks.house("unit u{fun f(a){return 1;}test t with 6,7{try{f(it);}catch e{check e==it;return 0;}check 0;}}");
        Checks.due("without a RULE", x.run(0), 0);
        x.twin(0, 0);
        x.rule(0, 0, 6, true, 6);
        x.rule(0, 0, 7, true, 7);
        Checks.due("a RULE told them", x.run(0), 2);
        Checks.says("What nothing in a code catches goes on to fail the code that CALLED it.");
        TestHouse y = Checks.house("unit u{fun f(){raise 5;}fun g(){f();raise 6;}test t{g();raise 7;}}");
        alone(y, 0, 2, 5, 1, 4);
    }

    private static int after(int seed, int times) {
        int x = seed;
        for (int n = 0; n < times; n++) {
            x = x * 1103515245 + 12345;
        }
        return x;
    }

    private static void draws() {
        Checks.says("DRAW of n: x, SEED at the beginning of a case, becomes x * 1103515245 + 12345; the number is (x >>> 16) modulo n.");
        TestHouse x = Checks.house("unit u{test a{raise draw 65536;}test b{draws();raise draw 1000;}fun draws(){return draw 5+draw 7;}"
                + "test c{raise draw 999999999;}test d{check draw 3<3;raise draw 3;}}",
                "unit u{shared s=0;before{s=draw 65536;}test a{check draw 9<9;}after{raise s*0+draw 65536;}}");
        for (int seed : new int[] {1, 0, -1, 2, 77, LEAST, GREATEST, -12345}) {
            x.seed(seed);
            x.alone(0, 0);
            Checks.due("all 16 bits of SEED " + seed, x.told(0), after(seed, 1) >>> 16);
            x.alone(0, 1);
            Checks.due("the third of SEED " + seed, x.told(0), (after(seed, 3) >>> 16) % 1000);
            Checks.due("DRAWS", x.told(3), 3);
            x.run(0);
            Checks.due("each CASE begins with SEED " + seed, x.verdict(0, 2, 1), after(seed, 1) >>> 16);
            x.alone(1, 0);
            Checks.due("x goes on from before to after, SEED " + seed, x.told(0), after(seed, 3) >>> 16);
        }
    }

    private static void manyCells() {
        Checks.says("its vars and rows have what is told (rows 0s)");
        StringBuilder text = new StringBuilder();
        for (int u = 0; u < 8; u++) {
            text.append("unit u").append(u).append("{");
            for (char m = 'a'; m <= 'l'; m++) {
                text.append("row ").append(m).append("[50];");
            }
            text.append(u < 7 ? "}" : "");
        }
        // A row of each of 8 units, and the first and the last one of the parcel.
        StringBuilder put = new StringBuilder();
        StringBuilder got = new StringBuilder();
        for (int u = 0; u < 8; u++) {
            put.append("u").append(u).append(".l[49]=").append(u + 1).append(";u").append(u).append(".a[0]=").append(u + 11).append(";");
            got.append("check u").append(u).append(".l[49]==").append(u + 1).append(";check u").append(u).append(".a[0]==")
                    .append(u + 11).append(";");
        }
        TestHouse x = Checks.house(text + "test t{" + put + got + "}test s{check u7.l[49]==0;check u0.a[0]==0;check u3.l[49]==0;}}");
        x.steps(1000);
        Checks.due("all rows have cells of their own", x.run(0), 2);
        TestHouse y = Checks.house("unit u{var a=-9;row r[3];shared s=4;test t{check a==-9;check r[0]+r[2]==0;a=1;r[0]=1;r[2]=1;s=s+1;}"
                + "test v{check a==-9;check r[0]+r[2]==0;check s==5;}}");
        Checks.due("a new state", y.run(0), 2);
    }

    private static void manyOperands() {
        // 11 codes of 36 operands each wait for the 12th.
        value("fun f(n){if n==0{return 0;}return " + "1+1*(".repeat(18) + "f(n-1)" + ")".repeat(18) + ";}", "f(2)", 36);
        TestHouse x = Checks.house("unit u{fun f(n){if n==0{return 0;}return " + "1+1*(".repeat(18) + "f(n-1)" + ")".repeat(18)
                + ";}test t{raise f(10);}test s{let a=1;let b=2;let c=3;let d=4;let e=5;let g=6;let h=7;let i=8;let j=9;"
                + "check a+f(3)+b+f(2)+c==96;check d*e*g*h*i*j==60480;}}");
        x.steps(1000);
        x.alone(0, 0);
        Checks.due("of 11 codes", x.told(0), 180);
        Checks.due("LOCALS stay", x.alone(0, 1), 1);
    }

    private static void starts() {
        Checks.says("STARTS. GET, PUT, ROWGET, ROWPUT, CALL first see to the unit of their member: if it has not begun in this state, it "
                + "begins:");
        String v = "}}unit v{const k=3;var n=5;shared s=6;row r[2];fun f(){return 9;}start{n=n+1;}fun g(){";
        String[] uses = {"check v.n;", "v.n=1;", "check v.s;", "v.s=1;", "check not v.r[1];", "v.r[1]=1;", "check v.f();", "v.f();"};
        for (String use : uses) {
            TestHouse x = Checks.house("unit u{test t{" + use + use + v + "}}");
            Checks.due(use, x.run(0), 1);
            int start = x.code(0, x.count(0, 3) - 3, 0);
            Checks.due("the last one of the start is a RETURN", start, 8);
            Checks.due("its code is done once", x.cover(0, x.count(0, 3) - 3, 0), 1);
        }
        TestHouse y = Checks.house("unit u{test t{check v.k;" + v + "}}");
        y.run(0);
        Checks.due("a const needs no unit", y.cover(0, y.count(0, 3) - 3, 0), 0);
        Checks.says("the code of its start, if it has one, is done (what it uses of its own unit sees it begun).");
        passes("var a=3;start{a=a+4;f();}fun f(){a=a*2;}", "check a==14;");
        // Units that use one another: each is begun once, and sees the other one begun.
        passes("var a=1;start{a=v.b+1;}", "check a==21;check v.b==20;}}unit v{var b=10;start{b=u.a*20;}fun f(){");
        passes("", "check v.x==5;}}unit v{var x=5;test t{");
    }

    private static void startsThatFail() {
        Checks.says("If that fails, or would be the 13th code that is open: that instruction fails by 8, and each later one that comes to "
                + "that unit by 9; else it goes on.");
        // The first unit of a parcel, by its own test.
        TestHouse x = Checks.house("unit u{var n=1;start{n=2;raise 1;}test t{check n;}test s{try{check n;}catch e{check e==8;}check n;}}");
        alone(x, 0, 2, 8, 6, 5);
        alone(x, 1, 2, 9, 20, 2 + 4 + 6);
        String v = "}}unit v{const k=3;var n=5;shared s=6;row r[2];fun f(){return 9;}start{raise 6;}fun g(){";
        String[] uses = {"check v.n;", "v.n=1;", "check v.s;", "v.s=1;", "check v.r[0];", "v.r[0]=1;", "check v.f();", "v.f();",
            "check v.r[9];", "v.r[9]=1;"};
        for (String use : uses) {
            fails("", use + v, 8);
            fails("", "try{v.n=1;}catch e{check e==8;}" + use + v, 9);
            fails("", "try{v.n=1;}catch e{}try{v.n=1;}catch e{check e==9;}" + use + v, 9);
        }
        passes("", "try{v.n=1;}catch e{}check v.k==3;" + v);
        // In the next CASE it may begin anew.
        TestHouse y = Checks.house("unit u{test t{try{v.f();}catch e{return 0;}check 0;}test s{try{v.f();}catch e{return 0;}check 0;}"
                + "test r{check v.f();}}unit v{shared s=0;fun f(){return s;}start{s=s+1;check s==3;}}");
        Checks.due("anew in each CASE", y.run(0), 3);
        // A START within a START: the inner one is 8 there, and the outer one, too.
        passes("", "try{check v.n;}catch e{check e==8;}try{check w.n;}catch e{check e==9;return 0;}check 0;"
                + "}}unit v{var n=1;start{n=w.n;}}unit w{var n=1;start{check 0;}fun f(){");
        passes("", "check v.n==8;}}unit v{var n=1;start{try{n=w.n;}catch e{n=e;}}}unit w{var n=1;start{check 0;}fun f(){");
        // What a START has a TRY for does not fail it.
        passes("", "check v.n==5;}}unit v{var n=1;start{try{check 0;}catch e{n=e;}}fun f(){");
    }

    private static void startsOfTheThirteenth() {
        Checks.says("or would be the 13th code that is open: that instruction fails by 8");
        String f = "fun f(n){if n==0{return v.x;}return f(n-1);}";
        String v = "}}unit v{var x=2;start{x=3;}test t{";
        passes(f, "check f(9)==3;" + v);
        fails(f, "f(10);" + v, 8);
        fails(f, "try{f(10);}catch e{check e==8;}check v.x;" + v, 9);
        passes(f, "check v.x==3;check f(10)==3;" + v);
        passes(f, "check f(10)==2;}}unit v{var x=2;test t{");
        // A 7 within a START is no 7 outside, and can be caught.
        passes("fun f(){return f();}", "try{check v.n;}catch e{check e==8;return 0;}check 0;}}unit v{var n=1;start{u.f();}fun g(){");
    }

    private static void steps() {
        Checks.says("Each instruction that is begun is a STEP (one that waited for a START goes on without another one).");
        TestHouse x = Checks.house("unit u{test t{v.n=1;}}unit v{var n=2;start{}}");
        x.steps(6);
        alone(x, 0, 1, 0, NONE, 6);
        x.run(0);
        Checks.due("the one that waited was begun once", x.cover(0, 1, 0), 1);
        x.steps(4);
        // The START has the last STEP, and the PUT that waited goes on.
        alone(x, 0, 2, 6, 2, 4);
        x.steps(3);
        alone(x, 0, 2, 6, 5, 3);
        x.steps(2);
        alone(x, 0, 2, 6, 4, 2);
        // One that fails is a STEP, too.
        TestHouse y = Checks.house("unit u{test t{check 1/0;}}");
        alone(y, 0, 2, 1, 2, 3);
    }

    // ---- 3 RUNS

    private static void cases() {
        Checks.says("A CASE is a test without with, or a test and one number of with; numbered in the order of the text.");
        TestHouse x = Checks.house("unit u{test a with -1,0,1,2{raise it;}test b{raise it;}test c with 7{raise it;}}unit v{test d{raise it+1;}}");
        Checks.due("how many", x.count(0, 4), 7);
        x.run(0);
        Checks.dueRow("its number", c -> x.verdict(0, c, 1), -1, 0, 1, 2, 0, 7, 1, BAD);
        TestHouse y = Checks.house("unit u{test a skip with 1,2{}test b raises 5 with 5,6,5{raise it;}}");
        Checks.due("run", y.run(0), 2);
        Checks.dueRow("skip and raises are of each of them", c -> y.verdict(0, c, 0), 5, 5, 1, 2, 1, BAD);
        Checks.dueRow("skip of each", c -> y.about(0, c, 3), 1, 1, 0, 0, 0, BAD);
        Checks.dueRow("raises of each", c -> y.about(0, c, 2), 0, 0, 5, 5, 5, BAD);
    }

    private static void life() {
        Checks.says("the befores of its unit in order, up to one that fails; if none did, the test, it being the number (0 without); then "
                + "the afters of its unit, the last first, each, whatever failed;");
        TestHouse x = Checks.house("unit u{shared s=0;before{s=s*10+1;}test a{s=s*10+3;}after{s=s*10+4;}test b{raise s;}before{s=s*10+2;}"
                + "after{s=s*10+5;}}unit v{before{raise 1;}after{raise 2;}}");
        Checks.due("run", x.run(0), 1);
        Checks.due("1 2 3 5 4, 1 2", x.verdict(0, 1, 1), 1235412);
        TestHouse y = Checks.house("unit u{shared s=0;before{s=s*10+1;}before{s=s*10+2;if s==12{raise 9;}}before{s=s*10+3;}test a{s=s*10+4;}"
                + "test b{raise s;}after{s=s*10+5;raise 7;}after{s=s*10+6;raise 8;}}");
        y.run(0);
        Checks.dueRow("BROKEN", what -> y.verdict(0, 0, what), 3, 9);
        Checks.due("1 2 6 5, 1 2 3", y.verdict(0, 1, 1), 1265123);
        TestHouse z = Checks.house("unit u{shared s=0;test a{s=s*10+1;raise 1;}test b{raise s;}after{s=s*10+2;}after{s=s*10+3;check 0;}"
                + "after{s=s*10+4;}}");
        z.run(0);
        Checks.due("each of three", z.verdict(0, 1, 1), 1432);
        Checks.says("a new state (no unit has begun; the shared have what they had, or, at the beginning of a run, what is told)");
        TestHouse w = Checks.house("unit u{shared s=7;var n=7;test a{s=s+1;n=n+1;raise s*100+n;}test b{s=s+1;n=n+1;raise s*100+n;}}");
        for (int n = 0; n < 2; n++) {
            w.run(0);
            Checks.due("the first one", w.verdict(0, 0, 1), 808);
            Checks.due("the second one", w.verdict(0, 1, 1), 908);
            w.alone(0, 1);
            Checks.due("alone", w.told(0), 808);
        }
    }

    private static void verdicts() {
        Checks.says("VERDICTS: 5 SKIPPED (nothing is done); 3 BROKEN: a before failed; of a test with raises n: 1 PASSED when it failed by n "
                + "(6, 7, too), else 2 FAILED (without a failure: by 4); without: FAILED when it failed; 4 BADLY ENDED: it would be "
                + "PASSED, but an after failed; else PASSED.");
        String tests = "test a{}test b{raise 5;}test c raises 5{raise 5;}test d raises 5{raise 6;}test e raises 5{}test f raises 4{}"
                + "test g raises 4{raise 4;}test h raises 6{while 1{}}test i raises 7{w.f();}test j skip{raise 5;}"
                + "test k skip raises 5{}test l raises 1{raise 0;}}";
        String w = "unit w{fun f(){f();}}";
        TestHouse x = Checks.house("unit u{" + tests + w, "unit u{before{raise 5;}" + tests + w, "unit u{after{raise 8;}after{raise 9;}"
                + tests + w, "unit u{before{raise 3;}after{raise 8;}" + tests + w);
        Checks.due("PASSED", x.run(0), 5);
        Checks.dueRow("VERDICT", c -> x.verdict(0, c, 0), 1, 2, 1, 2, 2, 2, 1, 1, 1, 5, 5, 2, BAD);
        Checks.dueRow("FAILURE", c -> x.verdict(0, c, 1), 0, 5, 0, 6, 4, 4, 0, 0, 0, 0, 0, 0, BAD);
        Checks.due("BROKEN, whatever it raises", x.run(1), 0);
        Checks.dueRow("VERDICT", c -> x.verdict(1, c, 0), 3, 3, 3, 3, 3, 3, 3, 3, 3, 5, 5, 3, BAD);
        Checks.dueRow("FAILURE", c -> x.verdict(1, c, 1), 5, 5, 5, 5, 5, 5, 5, 5, 5, 0, 0, 5, BAD);
        // Behind a 6 no after is done, so that it stays PASSED.
        Checks.due("BADLY ENDED", x.run(2), 1);
        Checks.dueRow("VERDICT", c -> x.verdict(2, c, 0), 4, 2, 4, 2, 2, 2, 4, 1, 4, 5, 5, 2, BAD);
        Checks.dueRow("FAILURE", c -> x.verdict(2, c, 1), 9, 5, 9, 6, 4, 4, 9, 0, 9, 0, 0, 0, BAD);
        Checks.due("BROKEN is not BADLY ENDED", x.run(3), 0);
        Checks.dueRow("VERDICT", c -> x.verdict(3, c, 0), 3, 3, 3, 3, 3, 3, 3, 3, 3, 5, 5, 3, BAD);
        Checks.dueRow("FAILURE", c -> x.verdict(3, c, 1), 3, 3, 3, 3, 3, 3, 3, 3, 3, 0, 0, 3, BAD);
        // Nothing is done of a SKIPPED one.
        TestHouse y = Checks.house("unit u{shared s=0;before{s=s+1;}after{s=s+1;}test a skip{s=s+1;}test b{check s==1;}}");
        Checks.due("SKIPPED", y.run(0), 1);
        Checks.dueRow("SKIPPED", what -> y.verdict(0, 0, what), 5, 0, NONE, 0, BAD);
        Checks.due("SKIPPED", y.cover(0, 0, 1), 1);
    }

    private static void failuresAndPlaces() {
        Checks.says("Its FAILURE is the number of the first failure that the verdict tells (of 2, 3, 4), else 0; WHERE: the instruction at "
                + "which that arose (of 8, 9 the one that used the unit; of 6 the one that was not begun; of 4 of a test NONE).");
        TestHouse x = Checks.house("unit u{test a{}test b{raise 5;}test c raises 5{raise 5;}test d raises 5{}test e{f();}fun f(){check 1/0;}"
                + "test g{v.n=1;}test h{try{v.n=1;}catch e{}v.n=1;}test i{try{raise 1;}catch e{raise e+1;}}}"
                + "unit v{var n=1;start{u.f();}}");
        int f = x.member(0, 0, 4);
        int[] first = new int[8];
        for (int c = 0; c < 8; c++) {
            first[c] = x.about(0, c, 4);
        }
        alone(x, 0, 1, 0, NONE, 2);
        alone(x, 1, 2, 5, first[1] + 1, 2);
        alone(x, 2, 1, 0, NONE, 2);
        alone(x, 3, 2, 4, NONE, 2);
        alone(x, 4, 2, 1, f + 2, 4);
        alone(x, 5, 2, 8, first[5] + 1, 2 + 4);
        alone(x, 6, 2, 9, first[6] + 7, 3 + 4 + 1 + 2);
        alone(x, 7, 2, 2, first[7] + 9, 3 + 1 + 4);
        // The first after that fails is the one that is told.
        TestHouse y = Checks.house("unit u{test a{}after{raise 1;}after{raise 2;}after{}}");
        alone(y, 0, 4, 2, 7, 2 + 2 + 2 + 2);
        Checks.dueRow("a run", what -> y.verdict(0, 0, what), NONE);
        y.run(0);
        Checks.dueRow("a run", what -> y.verdict(0, 0, what), 4, 2, 7, 8, BAD);
    }

    private static void noStepLeft() {
        Checks.says("(what begins and has no STEP left fails by 6, and nothing more is done)");
        TestHouse x = Checks.house("unit u{before{}before{}test a{}after{raise 5;}after{}}", "unit u{test a raises 6{}test b raises 6{while 1{}}"
                + "after{}}");
        int[][] due = {{3, 6, 1}, {3, 6, 2}, {3, 6, 3}, {2, 6, 4}, {2, 6, 5}, {4, 6, 10}, {4, 6, 11}, {4, 6, 6}, {4, 6, 7}, {4, 5, 7}};
        for (int n = 1; n <= 10; n++) {
            x.steps(n);
            alone(x, 0, due[n - 1][0], due[n - 1][1], due[n - 1][2], Math.min(n, 10));
        }
        x.steps(11);
        alone(x, 0, 4, 5, 7, 10);
        // The test raises no 6 when it is done with the last STEP; the after does.
        x.steps(2);
        Checks.due("no 6 of the test", x.alone(1, 0), 2);
        Checks.dueRow("no 6 of the test", x::told, 4, NONE, 2);
        Checks.due("a 6 of the test", x.alone(1, 1), 1);
        Checks.dueRow("a 6 of the test", x::told, 0, NONE, 2);
    }

    private static void ordersAndAlone() {
        Checks.says("A RUN of a parcel goes over its CASES in its ORDER (as they are numbered, at first). ALONE, a CASE is a run of itself.");
        TestHouse x = Checks.house("unit u{shared s=0;test a{s=s*10+1;raise s;}test b{s=s*10+2;raise s;}test c{s=s*10+3;raise s;}}");
        x.run(0);
        Checks.dueRow("1 2 3", c -> x.verdict(0, c, 1), 1, 12, 123, BAD);
        x.swap(0, 0, 2);
        Checks.dueRow("what was told stays", c -> x.verdict(0, c, 1), 1, 12, 123, BAD);
        x.run(0);
        Checks.dueRow("3 2 1", c -> x.verdict(0, c, 1), 321, 32, 3, BAD);
        x.swap(0, 1, 2);
        x.run(0);
        Checks.dueRow("3 1 2", c -> x.verdict(0, c, 1), 31, 312, 3, BAD);
        x.alone(0, 1);
        Checks.due("alone", x.told(0), 2);
    }

    private static final String NINE = "unit u{fun a(){return 1;}fun b(){return 1;}fun c(){return 1;}fun d(){return 1;}fun e(){return 1;}"
            + "fun f(){return 1;}fun g(){return 1;}fun h(){return 1;}fun i(){return 1;}"
            + "test t{raise a()*10000000+b()*1000000+c()*100000+d()*10000+e()*1000+f()*100+g()*10+h();}}";

    private static void doubles() {
        Checks.says("DOUBLES of funs (8 stand at most, all parcels together): in each run (also of a prop) a CALL of a fun with a DOUBLE sees "
                + "to the START, then (it had a CALL) the last of its RULES (8) that fits answers (no code is begun, however many are "
                + "open), or fails by a number, there; if none fits, the code is done.");
        TestHouse x = Checks.house(NINE, "unit v{fun j(){}}");
        x.alone(0, 0);
        Checks.due("none", x.told(0), 11111111);
        for (int m = 0; m < 8; m++) {
            Checks.due("number", x.twin(0, m), m);
            Checks.due("RULE", x.rule(m, -1, 0, false, m + 2), 1);
        }
        Checks.due("FULL", x.twin(0, 8), FULL);
        Checks.due("FULL in all parcels together", x.twin(1, 0), FULL);
        x.alone(0, 0);
        Checks.due("8 stand at once", x.told(0), 23456789);
        x.alone(0, 0);
        for (int m = 0; m < 8; m++) {
            Checks.due("CALLS", x.calls(m, -1, 0), 1);
            Checks.due("RULE", x.calls(m, 0, -1), 0);
        }
        for (int m = 7; m >= 0; m--) {
            Checks.due("dropped", x.drop(m), 1);
            x.alone(0, 0);
            Checks.due("the others stay", x.told(0) % 10, 1);
        }
        x.alone(0, 0);
        Checks.due("none any more", x.told(0), 11111111);
        // A START that fails: no CALL was had; and with a RULE it is seen to, too.
        TestHouse y = Checks.house("unit u{test c{check v.f()==6;check v.f()==6;}test d{w.x=3;v.f();}}unit v{fun f(){return 1;}"
                + "start{w.x=w.x+1;check w.x<4;}}unit w{shared x=1;}");
        y.twin(0, 0);
        y.rule(0, -1, 0, false, 6);
        Checks.due("with a START", y.alone(0, 0), 1);
        Checks.due("with a START", y.told(2), 10 + 10);
        Checks.due("CALLS", y.calls(0, -1, 0), 2);
        Checks.due("the START fails", y.alone(0, 1), 2);
        Checks.due("by 8", y.told(0), 8);
        Checks.due("no CALL", y.calls(0, -1, 0), 0);
        doublesOfOpenCodes();
    }

    private static void doublesOfOpenCodes() {
        // f(10) and the test are 12 codes: a 13th one is g.
        TestHouse x = Checks.house("unit u{fun g(a){return 1;}fun f(n){if n==0{return g(3);}return f(n-1);}test a{raise f(10);}"
                + "test b{raise f(9);}prop p(a){check g(a)==1;}}");
        Checks.due("7", x.alone(0, 0), 2);
        Checks.due("7", x.told(0), 7);
        x.twin(0, 0);
        x.alone(0, 0);
        Checks.due("no RULE fits: the code", x.told(0), 7);
        Checks.due("it had a CALL", x.calls(0, -1, 0), 1);
        Checks.due("its argument", x.calls(0, 0, 0), 3);
        Checks.due("no RULE", x.calls(0, 0, -1), NONE);
        x.rule(0, 0, 3, false, 50);
        x.alone(0, 0);
        Checks.due("however many are open", x.told(0), 50);
        x.rule(0, 0, 3, true, 51);
        x.alone(0, 0);
        Checks.due("by a number", x.told(0), 51);
        Checks.due("there", x.code(0, x.told(1), 0), 7);
        x.rule(0, 0, 0, true, 51);
        Checks.due("prop", x.property(0, 0, 1), 0);
        Checks.due("also of a prop", x.small(-1), 51);
    }

    private static void rulesThatFit() {
        Checks.says("A RULE fits when its argument is its number, or it asks for none.");
        TestHouse x = Checks.house("unit u{fun f(a,b,c,d){return 0;}test t with 1,2,3,4{raise f(it,it*2,it*3,it*4);}}");
        x.twin(0, 0);
        x.rule(0, -1, 99, false, 10);
        x.rule(0, 0, 1, false, 11);
        x.rule(0, 1, 4, false, 12);
        x.rule(0, 2, 9, false, 13);
        x.rule(0, 3, 16, false, 14);
        x.run(0);
        Checks.dueRow("each argument", c -> x.verdict(0, c, 1), 11, 12, 13, 14, BAD);
        Checks.dueRow("which RULE", i -> x.calls(0, i, -1), 1, 2, 3, 4, BAD);
        x.rule(0, 3, 4, false, 15);
        x.rule(0, -1, 0, true, 16);
        x.rule(0, 2, 12, true, -17);
        Checks.due("8", x.rule(0, 0, 0, false, 0), FULL);
        x.run(0);
        Checks.dueRow("the last that fits", c -> x.verdict(0, c, 1), 16, 16, 16, -17, BAD);
        Checks.dueRow("which RULE", i -> x.calls(0, i, -1), 6, 6, 6, 7, BAD);
        TestHouse y = Checks.house("unit u{fun f(a){return 5;}test t with 1,2{raise f(it);}}");
        y.twin(0, 0);
        y.rule(0, 0, 2, false, LEAST);
        y.run(0);
        Checks.dueRow("none fits", c -> y.verdict(0, c, 1), 5, LEAST, BAD);
        Checks.dueRow("which RULE", i -> y.calls(0, i, -1), NONE, 0, BAD);
    }

    // ---- the promises 11 to 22

    private static void promise11() {
        Checks.says("STEPS become n (1 .. 1000): what they were. BAD.");
        TestHouse x = Checks.house("unit u{test t{while 1{}}}");
        for (int n : new int[] {0, 1001, -1, LEAST, GREATEST}) {
            Checks.due("STEPS " + n, x.steps(n), BAD);
            Checks.due("stay", x.steps(200), 200);
        }
        int was = 200;
        for (int n : new int[] {1, 1000, 2, 999, 1000}) {
            Checks.due("were", x.steps(n), was);
            alone(x, 0, 2, 6, n % 3 == 0 ? 0 : n % 3, n);
            was = n;
        }
        Checks.due("BAD", x.steps(1001), BAD);
        Checks.due("stay", x.steps(1), 1000);
    }

    private static void promise12() {
        Checks.says("SEED becomes x: what it was.");
        TestHouse x = new TestHouse();
        int was = 1;
        for (int n : new int[] {0, -1, LEAST, GREATEST, NONE, BAD, 7}) {
            Checks.due("was", x.seed(n), was);
            was = n;
        }
    }

    private static void promise13() {
        Checks.says("Two places of a parcel's ORDER (from 0) change their CASES: the CASE that is at i then. BAD.");
        TestHouse x = Checks.house("unit u{test a{}test b with 1,2{}}", "unit v{}", "unit w{test a{}}");
        Checks.due("first and last", x.swap(0, 0, 2), 2);
        Checks.due("itself", x.swap(0, 0, 0), 2);
        Checks.due("back", x.swap(0, 2, 0), 2);
        for (int far : FAR) {
            Checks.due("p", x.swap(far, 0, 0), BAD);
            Checks.due("i", x.swap(0, far, 0), BAD);
            Checks.due("j", x.swap(0, 0, far), BAD);
        }
        Checks.due("i", x.swap(0, 3, 0), BAD);
        Checks.due("j", x.swap(0, 0, 3), BAD);
        Checks.due("none", x.swap(1, 0, 0), BAD);
        Checks.due("one", x.swap(2, 0, 0), 0);
        Checks.due("one", x.swap(2, 0, 1), BAD);
        Checks.due("p", x.swap(3, 0, 0), BAD);
        Checks.dueRow("as at first", i -> x.swap(0, i, i), 0, 1, 2, BAD);
    }

    private static void promise14() {
        Checks.says("A RUN: how many CASES PASSED. BAD.");
        StringBuilder text = new StringBuilder("unit u{");
        for (int n = 0; n < 16; n++) {
            text.append("test t").append(n).append("{}");
        }
        TestHouse x = Checks.house(text + "}", "unit u{}", "unit u{test a skip{}}");
        Checks.due("16", x.run(0), 16);
        Checks.due("none", x.run(1), 0);
        Checks.due("SKIPPED", x.run(2), 0);
        for (int far : FAR) {
            Checks.due("p", x.run(far), BAD);
        }
        Checks.due("p", x.run(3), BAD);
    }

    private static void promise15() {
        Checks.says("Of CASE c in the latest run() of its parcel: 0 VERDICT, 1 FAILURE, 2 WHERE (NONE), 3 STEPS made. BAD; NONE: no run(). (1 "
                + "may be any number.)");
        TestHouse x = Checks.house("unit u{test a{raise -1;}test b skip{}}", "unit v{test c{}}");
        x.alone(0, 0);
        x.kill(0);
        x.run(1);
        for (int what = 0; what < 4; what++) {
            Checks.due("no run()", x.verdict(0, 1, what), NONE);
        }
        Checks.due("BAD ahead of NONE", x.verdict(0, 2, 0), BAD);
        Checks.due("BAD ahead of NONE", x.verdict(0, 0, 4), BAD);
        x.run(0);
        Checks.dueRow("a", what -> x.verdict(0, 0, what), 2, -1, 2, 3, BAD);
        Checks.dueRow("b", what -> x.verdict(0, 1, what), 5, 0, NONE, 0, BAD);
        for (int far : FAR) {
            Checks.due("p", x.verdict(far, 0, 0), BAD);
            Checks.due("c", x.verdict(0, far, 0), BAD);
            Checks.due("what", x.verdict(0, 0, far), BAD);
        }
        Checks.due("p", x.verdict(2, 0, 0), BAD);
        x.steps(1);
        x.seed(5);
        x.swap(0, 0, 1);
        x.alone(0, 0);
        x.luck(0, 0);
        x.kill(0);
        Checks.dueRow("stays", what -> x.verdict(0, 0, what), 2, -1, 2, 3, BAD);
        x.run(0);
        Checks.dueRow("the latest one", what -> x.verdict(0, 0, what), 2, 6, 1, 1, BAD);
    }

    private static void promise16() {
        Checks.says("How often instruction i was begun in the latest run() (what = 0), in how many CASES (1): in all codes that were done for "
                + "them. BAD; NONE.");
        TestHouse x = Checks.house("unit u{before{f();}test a{f();f();}test b{f();g();}test c{g();}after{v.n=1;}fun f(){}fun g(){}"
                + "test d skip{f();}}unit v{var n=1;start{}}");
        int f = x.member(0, 0, 4);
        int g = x.member(0, 1, 4);
        int start = x.count(0, 3) - 2;
        Checks.due("NONE", x.cover(0, f, 0), NONE);
        Checks.due("BAD ahead of NONE", x.cover(0, f, 2), BAD);
        Checks.due("BAD ahead of NONE", x.cover(0, x.count(0, 3), 0), BAD);
        for (int n = 0; n < 2; n++) {
            x.run(0);
            Checks.dueRow("f", what -> x.cover(0, f, what), 6, 3, BAD);
            Checks.dueRow("g, not in the first CASE", what -> x.cover(0, g, what), 2, 2, BAD);
            Checks.dueRow("a start", what -> x.cover(0, start, what), 3, 3, BAD);
            Checks.dueRow("in the second CASE alone", what -> x.cover(0, x.about(0, 1, 4), what), 1, 1, BAD);
            Checks.dueRow("in the third CASE alone", what -> x.cover(0, x.about(0, 2, 4), what), 1, 1, BAD);
            Checks.dueRow("SKIPPED", what -> x.cover(0, x.about(0, 3, 4), what), 0, 0, BAD);
        }
        // One that has no STEP is not begun; one that fails is.
        x.steps(1);
        x.run(0);
        Checks.dueRow("the first one", what -> x.cover(0, 0, what), 3, 3, BAD);
        Checks.dueRow("not begun", what -> x.cover(0, f, what), 0, 0, BAD);
        for (int far : FAR) {
            Checks.due("p", x.cover(far, 0, 0), BAD);
            Checks.due("i", x.cover(0, far, 0), BAD);
            Checks.due("what", x.cover(0, 0, far), BAD);
        }
        TestHouse y = Checks.house("unit u{test a{while 1{}}test b{check 0;}}");
        y.steps(1000);
        y.run(0);
        Checks.dueRow("a loop", what -> y.cover(0, 0, what), 334, 1, BAD);
        Checks.dueRow("a failure", what -> y.cover(0, 6, what), 1, 1, BAD);
        Checks.dueRow("behind it", what -> y.cover(0, 7, what), 0, 0, BAD);
    }

    private static void promise17() {
        Checks.says("CASE c ALONE: its VERDICT. BAD.");
        TestHouse x = Checks.house("unit u{test a{}test b{check 0;}test c{}test d{}test e skip{}before{v.s=v.s+1;}}unit v{shared s=0;}",
                "unit w{}");
        Checks.dueRow("alone", c -> x.alone(0, c), 1, 2, 1, 1, 5, BAD);
        for (int far : FAR) {
            Checks.due("p", x.alone(far, 0), BAD);
            Checks.due("c", x.alone(0, far), BAD);
        }
        Checks.due("none", x.alone(1, 0), BAD);
        Checks.due("p", x.alone(2, 0), BAD);
        Checks.due("no run()", x.verdict(0, 0, 0), NONE);
    }

    private static void promise18() {
        Checks.says("Of the latest alone() or touch() that was neither BAD nor NONE: 0 FAILURE, 1 WHERE (NONE; in BUILDS an instruction of the "
                + "new parcel and 1000), 2 STEPS made, 3 how many DRAWS gave a number. BAD: also without one. (0 may be any number.)");
        TestHouse x = Checks.house("unit u{test a{check draw 1+draw 2*0==0;try{check draw 0;}catch e{}raise -1;}test b{}test c skip{}}",
                "unit u{test d{}}unit v{}", "unit v{}");
        for (int what = -1; what < 5; what++) {
            Checks.due("without one", x.told(what), BAD);
        }
        x.run(0);
        x.luck(0, 0);
        x.alone(0, 3);
        x.build(1, 1);
        Checks.due("NONE", x.touch(0, 0), NONE);
        Checks.due("still without", x.told(0), BAD);
        x.alone(0, 0);
        Checks.dueRow("a", x::told, -1, 19, 20 - 3, 2, BAD);
        Checks.due("NONE", x.touch(0, 0), NONE);
        Checks.due("BAD", x.touch(1, 0), BAD);
        Checks.due("BAD", x.alone(0, 3), BAD);
        x.run(0);
        Checks.dueRow("stays", x::told, -1, 19, 20 - 3, 2, BAD);
        x.alone(0, 1);
        Checks.dueRow("b: no DRAWS any more", x::told, 0, NONE, 2, 0, BAD);
        x.alone(0, 0);
        x.alone(0, 2);
        Checks.dueRow("SKIPPED", x::told, 0, NONE, 0, 0, BAD);
        x.build(1, 2);
        x.alone(0, 0);
        Checks.due("touch", x.touch(1, 0), 1);
        Checks.dueRow("d", x::told, 0, NONE, 2, 0, BAD);
        for (int far : FAR) {
            Checks.due("what", x.told(far), BAD);
        }
    }

    private static void promise19() {
        Checks.says("A DOUBLE of member m: its number (0, 1 .. of all that were made). BAD: also no fun; NONE: it has one; FULL: 8 stand.");
        TestHouse x = Checks.house(NINE, "unit v{const a=1;var b=1;shared c=1;row d[1];fun e(){}}");
        for (int m = 0; m < 4; m++) {
            Checks.due("no fun", x.twin(1, m), BAD);
        }
        for (int far : FAR) {
            Checks.due("p", x.twin(far, 0), BAD);
            Checks.due("m", x.twin(0, far), BAD);
        }
        Checks.due("m", x.twin(0, 9), BAD);
        Checks.due("p", x.twin(2, 0), BAD);
        Checks.due("0", x.twin(1, 4), 0);
        Checks.due("it has one", x.twin(1, 4), NONE);
        for (int m = 0; m < 7; m++) {
            Checks.due("number", x.twin(0, m), m + 1);
            Checks.due("it has one", x.twin(0, m), NONE);
        }
        Checks.due("FULL", x.twin(0, 7), FULL);
        Checks.due("NONE ahead of FULL", x.twin(0, 6), NONE);
        Checks.due("BAD ahead of FULL", x.twin(1, 0), BAD);
        Checks.due("dropped", x.drop(4), 0);
        Checks.due("numbers go on", x.twin(0, 8), 8);
        Checks.due("FULL", x.twin(0, 3), FULL);
        Checks.due("dropped", x.drop(8), 0);
        Checks.due("numbers go on", x.twin(0, 8), 9);
        Checks.due("the old number", x.calls(4, -1, 0), BAD);
        Checks.due("the old number", x.calls(8, -1, 0), BAD);
    }

    private static void promise20() {
        Checks.says("A RULE more of a DOUBLE: how many. Argument k (0 .. , or -1: it asks for none) is v: it answers y, or, if it fails, fails "
                + "by y. BAD: also an argument that the fun has not; FULL: 8.");
        TestHouse x = Checks.house("unit u{fun a(){}fun b(c){}fun d(e,f,g,h){}}");
        for (int m = 0; m < 3; m++) {
            x.twin(0, m);
        }
        int[] parameters = {0, 1, 4};
        for (int d = 0; d < 3; d++) {
            Checks.due("not that argument", x.rule(d, parameters[d], 0, false, 0), BAD);
            Checks.due("not that argument", x.rule(d, GREATEST, 0, true, 0), BAD);
            Checks.due("below -1", x.rule(d, -2, 0, false, 0), BAD);
            Checks.due("below -1", x.rule(d, LEAST, 0, false, 0), BAD);
            for (int n = 1; n <= 8; n++) {
                Checks.due("how many", x.rule(d, n % 2 == 0 ? -1 : parameters[d] - 1, LEAST, n % 3 == 0, GREATEST), n);
            }
            Checks.due("FULL", x.rule(d, -1, 0, false, 0), FULL);
            Checks.due("BAD ahead of FULL", x.rule(d, parameters[d], 0, false, 0), BAD);
        }
        for (int far : FAR) {
            Checks.due("d", x.rule(far, -1, 0, false, 0), BAD);
        }
        Checks.due("d", x.rule(3, -1, 0, false, 0), BAD);
        Checks.due("8", x.drop(2), 8);
    }

    private static void promise21() {
        Checks.says("A DOUBLE is dropped (its number stays BAD): how many RULES it had. BAD.");
        TestHouse x = Checks.house(NINE);
        for (int far : FAR) {
            Checks.due("d", x.drop(far), BAD);
        }
        Checks.due("none was made", x.drop(0), BAD);
        x.twin(0, 0);
        Checks.due("no RULES", x.drop(0), 0);
        x.twin(0, 0);
        x.rule(1, -1, 0, false, 7);
        Checks.due("one RULE", x.drop(1), 1);
        for (int d = 0; d < 2; d++) {
            Checks.due("its number stays BAD", x.drop(d), BAD);
            Checks.due("its number stays BAD", x.rule(d, -1, 0, false, 1), BAD);
            Checks.due("its number stays BAD", x.calls(d, -1, 0), BAD);
        }
        x.alone(0, 0);
        Checks.due("it stands no more", x.told(0), 11111111);
        for (int n = 2; n < 20; n++) {
            Checks.due("number", x.twin(0, n % 9), n);
            Checks.due("dropped", x.drop(n), 0);
        }
    }

    private static void promise22() {
        Checks.says("How many CALLS a DOUBLE had in the latest run(), alone(), touch() of any parcel (others leave it so; i = -1); of call i (the "
                + "first 50): argument what (0 .. ), or, for what = -1, the RULE that answered (NONE: none did). BAD: also no such call.");
        TestHouse x = Checks.house("unit u{fun f(a,b,c,d){}fun g(){}test t with 49,50,51{let i=0;while i<it{i=i+1;f(i,-i,it,0);}}"
                + "test s{g();f(1,2,3,4);}prop p(a){f(a,a,a,a);}}", "unit v{}", "unit v{}unit w{test t{}}");
        x.steps(1000);
        x.twin(0, 0);
        x.twin(0, 1);
        Checks.due("no run", x.calls(0, -1, 0), 0);
        Checks.due("no such call", x.calls(0, 0, 0), BAD);
        x.alone(0, 0);
        Checks.due("49", x.calls(0, -1, 0), 49);
        Checks.dueRow("the last one", i -> x.calls(0, 48, i - 1), NONE, 49, -49, 49, 0, BAD);
        Checks.due("no such call", x.calls(0, 49, 0), BAD);
        x.alone(0, 1);
        Checks.due("50", x.calls(0, -1, 0), 50);
        Checks.dueRow("the 50th", i -> x.calls(0, 49, i - 1), NONE, 50, -50, 50, 0, BAD);
        x.alone(0, 2);
        Checks.due("51", x.calls(0, -1, 0), 51);
        Checks.dueRow("the 50th", i -> x.calls(0, 49, i - 1), NONE, 50, -50, 51, 0, BAD);
        Checks.due("the 51st is not kept", x.calls(0, 50, 0), BAD);
        x.property(0, 0, 9);
        x.kill(0);
        x.luck(0, 3);
        x.blame(0, 3);
        x.twin(0, 1);
        x.run(9);
        x.alone(0, 9);
        x.touch(0, 0);
        Checks.due("others leave it so", x.calls(0, -1, 0), 51);
        x.alone(0, 3);
        Checks.due("one", x.calls(0, -1, 0), 1);
        Checks.due("one of g", x.calls(1, -1, 0), 1);
        Checks.dueRow("without arguments", i -> x.calls(1, 0, i - 1), NONE, BAD);
        Checks.dueRow("with four", i -> x.calls(0, 0, i - 1), NONE, 1, 2, 3, 4, BAD);
        x.run(0);
        Checks.due("in all CASES", x.calls(0, -1, 0), 151);
        x.build(0, 1);
        Checks.due("touch", x.touch(0, 3), 1);
        Checks.due("touch", x.calls(0, -1, 0), 1);
        x.run(1);
        Checks.due("of any parcel", x.calls(0, -1, 0), 0);
        x.alone(0, 3);
        // One that takes the place of a dropped one has had no CALLS.
        x.drop(0);
        Checks.due("a new one", x.twin(0, 0), 2);
        Checks.due("a new one", x.calls(2, -1, 0), 0);
        Checks.due("the other one", x.calls(1, -1, 0), 1);
        for (int far : FAR) {
            Checks.due("d", x.calls(far, -1, 0), BAD);
            Checks.due("i", far == -1 ? BAD : x.calls(1, far, 0), BAD);
            Checks.due("what", x.calls(1, 0, far == -1 ? 0 : far), BAD);
        }
    }
}
