/** The promises 23 to 40: MUTANTS, PROPERTIES, HISTORIES, LUCK, BLAME, BUILDS. Numbers are worked out by hand. */
public final class StudiesTest {
    private static final int BAD = TestHouse.BAD, NONE = TestHouse.NONE, FULL = TestHouse.FULL, SPENT = TestHouse.SPENT,
            FINE = TestHouse.FINE;

    public static void main(String[] args) {
        promise23();
        promises24To26();
        mutantsOneByOne();
        killsThatAreSpent();
        leastSuites();
        promises27And28();
        propertiesThatAreSpent();
        promise29();
        promise30();
        promise31();
        registers();
        counters();
        queues();
        places();
        promises34And35();
        luckThatIsSpent();
        luckThatIsFine();
        promises36And37();
        promise38();
        promise39();
        promise40();
        doublesInBuilds();
        Checks.end("StudiesTest");
    }

    private static void promise23() {
        TestHouse x = Checks.house("unit u{var v=1;row r[2];fun f(a,b){let c=a+b-a*b/2%3;v=-c;r[0]=r[1];check a<b and a<=b "
                + "or not(a==b);if a!=b{raise v;}f(1,2);while draw 2{}try{return 1;}catch e{}}before{check 1;}test t{check 1;}"
                + "prop p(a){check a+1;}start{v=2;}}");
        // What is altered in f, and in the start: its instruction and what is there instead.
        int[][] due = {{2, 11}, {5, 13}, {6, 0}, {7, 12}, {8, 0}, {9, 12}, {10, 10}, {13, 30}, {14, 9}, {15, 0}, {16, 0},
            {18, 33}, {21, 16}, {24, 15}, {25, 20}, {28, 18}, {29, 30}, {30, 19}, {31, 9}, {34, 17}, {35, 31}, {37, 9},
            {38, 0}, {39, 0}, {40, 32}, {42, 0}, {44, 31}, {47, 0}, {48, 34}, {52, 0}, {53, 34}, {68, 0}, {69, 9}, {70, 0},
            {71, 34}};
        Checks.due("23: how many", x.count(0, 6), due.length);
        for (int k = 0; k < due.length; k++) {
            Checks.due("23: instruction of " + k, x.mutant(0, k, 0), due[k][0]);
            Checks.due("23: instead of " + k, x.mutant(0, k, 1), due[k][1]);
            Checks.due("23: no kill()", x.mutant(0, k, 2), NONE);
        }
        Checks.due("23: MUTANT", x.mutant(0, due.length, 0), BAD);
        Checks.due("23: MUTANT", x.mutant(0, -1, 2), BAD);
        Checks.due("23: what", x.mutant(0, 0, 3), BAD);
        Checks.due("23: what", x.mutant(0, 0, -1), BAD);
        Checks.due("23: parcel", x.mutant(1, 0, 0), BAD);
    }

    private static void promises24To26() {
        TestHouse x = Checks.house("unit u{fun f(a){return a+1;}test a{check f(1)==2;}test b{check f(0);}test c skip{f(1);}"
                + "test d raises 3{raise f(2);}}", "unit v{fun f(){}}");
        Checks.due("25: no kill()", x.killed(0, 0, 0), NONE);
        Checks.due("25: BAD ahead", x.killed(0, 5, 0), BAD);
        Checks.due("25: BAD ahead", x.killed(0, 0, 4), BAD);
        Checks.due("26: no kill()", x.least(0, -1), NONE);
        Checks.due("26: no kill()", x.least(0, 99), NONE);
        Checks.due("26: BAD ahead", x.least(0, -2), BAD);
        Checks.due("24: parcel", x.kill(2), BAD);
        Checks.due("24: parcel", x.kill(-1), BAD);
        // f: LOAD, PUSH 1, ADD, RETURN, PUSH 0, RETURN; the last two are not come to.
        Checks.due("24", x.kill(0), 3);
        Checks.dueRow("23: by how many", k -> x.mutant(0, k, 2), 2, 2, 3, 0, 0, BAD);
        Checks.dueRow("25: a", k -> x.killed(0, k, 0), 1, 1, 1, 0, 0, BAD);
        Checks.dueRow("25: b", k -> x.killed(0, k, 1), 0, 0, 1, 0, 0);
        Checks.dueRow("25: c", k -> x.killed(0, k, 2), 0, 0, 0, 0, 0);
        Checks.dueRow("25: d", k -> x.killed(0, k, 3), 1, 1, 1, 0, 0);
        Checks.due("25: CASE", x.killed(0, 0, -1), BAD);
        Checks.due("25: MUTANT", x.killed(0, -1, 0), BAD);
        Checks.due("25: parcel", x.killed(2, 0, 0), BAD);
        Checks.dueRow("26", i -> x.least(0, i - 1), 1, 0, BAD, BAD);
        Checks.due("26: below", x.least(0, -2), BAD);
        Checks.due("26: parcel", x.least(-1, -1), BAD);
        Checks.due("15: kill() is no run()", x.verdict(0, 0, 0), NONE);
        // It stays, whatever is set since.
        x.steps(1);
        x.seed(9);
        x.swap(0, 0, 1);
        x.twin(0, 0);
        Checks.due("25: stays", x.killed(0, 0, 0), 1);
        Checks.due("24: anew", x.kill(0), 0);
        Checks.due("25: anew", x.killed(0, 0, 0), 0);
        Checks.dueRow("26: none is needed", i -> x.least(0, i - 1), 0, BAD);
        Checks.due("24: no CASES", x.kill(1), 0);
        Checks.due("26: no CASES", x.least(1, -1), 0);
        // By its FAILURE alone.
        TestHouse y = Checks.house("unit u{fun f(){return 3;}test a{raise f();}}");
        Checks.due("24: another FAILURE", y.kill(0), 2);
        // DOUBLES count in these runs.
        y.twin(0, 0);
        y.rule(0, -1, 0, false, 3);
        Checks.due("24: a DOUBLE", y.kill(0), 0);
        // What is shared goes on from CASE to CASE.
        TestHouse z = Checks.house("unit u{shared s=0;fun f(){s=s+1;}test a{f();}test b{check s==1;}}");
        Checks.due("24: the shared", z.kill(0), 3);
        Checks.due("25: the CASE behind", z.killed(0, 0, 1), 1);
        Checks.due("25: the CASE itself", z.killed(0, 0, 0), 0);
        z.swap(0, 0, 1);
        Checks.due("24: in its ORDER", z.kill(0), 0);
    }

    /** Each alteration is seen by what a CASE then meets. */
    private static void altered(String members, String test, int operation, int failure) {
        TestHouse x = Checks.house("unit u{" + members + "test t{" + test + "}test s{raise 90;}}");
        int found = 0;
        x.kill(0);
        for (int k = 0; k < x.count(0, 6); k++) {
            if (x.code(0, x.mutant(0, k, 0), 0) == operation && found == 0) {
                found = 1;
                Checks.due(members + test + " killed", x.killed(0, k, 0), failure);
                Checks.due(members + test + " not killed", x.killed(0, k, 1), 0);
            }
        }
        Checks.due(members + " has it", found, 1);
    }

    private static void mutantsOneByOne() {
        altered("const k=5;fun f(){return k;}", "check f()!=6;check f()==5;", 0, 1);
        altered("fun f(a,b){return a+b;}", "check f(2,0)==2;check f(0,0)==0;", 10, 0);
        altered("fun f(a,b){return a-b;}", "check f(2,0)==2;check f(1,3)==-2;", 11, 1);
        altered("fun f(a,b){return a*b;}", "check f(7,2)==14;", 12, 1);
        altered("fun f(a,b){return a/b;}", "check f(7,1)==7;", 13, 0);
        altered("fun f(a,b){return a%b;}", "check f(7,2)==1;", 14, 1);
        altered("fun f(a,b){return a<b;}", "check f(1,2);check not f(2,1);", 15, 0);
        altered("fun f(a,b){return a<b;}", "check not f(2,2);", 15, 1);
        altered("fun f(a,b){return a<=b;}", "check f(2,2);", 16, 1);
        altered("fun f(a,b){return a==b;}", "check f(2,2);", 17, 1);
        altered("fun f(a,b){return a!=b;}", "check not f(2,2);", 18, 1);
        altered("fun f(a,b){return a and b;}", "check f(2,3)==1;check f(0,0)==0;", 19, 0);
        altered("fun f(a,b){return a and b;}", "check f(2,0)==0;", 19, 1);
        altered("fun f(a,b){return a or b;}", "check f(2,0)==1;", 20, 1);
        altered("fun f(a){return not a;}", "check f(7)==0;", 21, 1);
        altered("fun f(a){return not not a;}", "check f(1)==1;", 21, 1);
        altered("fun f(a){return -a;}", "check f(7)==-7;", 22, 1);
        altered("fun f(a){if a{return 1;}return 2;}", "check f(9)==1;", 24, 1);
        altered("var v=1;fun f(a){v=a;}", "f(1);check v==1;", 4, 0);
        altered("var v=1;fun f(a){v=a;return 4;}", "check f(2)==4;check v==2;", 4, 1);
        altered("row r[2];fun f(a){r[a]=a;return 4;}", "check f(0)==4;check r[0]==0;", 6, 0);
        altered("row r[2];fun f(a){r[a]=a;return 4;}", "check f(1)==4;check r[1]==1;", 6, 1);
        altered("fun f(a){check a;}", "f(1);", 28, 0);
        altered("fun f(a){check a;}", "f(0);", 28, 1);
        altered("fun f(a){raise a;}", "f(9);", 29, 1);
        altered("fun g(a,b){let z=a+b;}fun f(a){return g(a,a)+1;}", "check f(3)==1;", 7, 0);
        altered("fun g(a,b){return a+b;}fun f(a){return g(a,a)+1;}", "check f(3)==7;", 7, 1);
        // The arguments go, so that what stood ahead of them is added.
        altered("fun g(a){return a;}fun f(a){return 5+g(a);}", "if f(3)==8{return 1;}check f(3)==5;", 7, 0);
        altered("fun f(a){return a;}", "check f(3)==3;", 8, 1);
        altered("fun f(a){return a;}", "check f(0)==0;", 8, 0);
        // A CALL that is GONE sees to no START.
        altered("fun f(){return v.g();}", "f();check v.z==0;}}unit v{shared z=0;fun g(){z=z+1;}fun x(){", 7, 1);
    }

    private static void killsThatAreSpent() {
        // Each run makes 1000 STEPS: 39 MUTANTS and the parcel as it is make 40000, 41 make 2000 more.
        String head = "unit u{fun f(){let a=0";
        String tail = ";}test t{while 1{}}}";
        TestHouse x = Checks.house(head + "+0".repeat(18) + tail, head + "+0".repeat(19) + tail);
        Checks.due("24: how many", x.count(0, 6), 39);
        x.steps(1000);
        Checks.due("24: 40000 STEPS", x.kill(0), 0);
        Checks.due("24: more", x.kill(1), SPENT);
        Checks.due("24: nothing is changed", x.killed(1, 0, 0), NONE);
        Checks.due("24: nothing is changed", x.mutant(1, 0, 2), NONE);
        x.steps(100);
        Checks.due("24: with fewer STEPS", x.kill(1), 0);
        x.steps(1000);
        Checks.due("24: more", x.kill(1), SPENT);
        Checks.due("24: that of the one ahead stays", x.killed(1, 0, 0), 0);
        Checks.due("24: that of the one ahead stays", x.least(1, -1), 0);
        // What begins without a STEP fails by 6, and is no STEP that WORK would lack.
        x.run(1);
        Checks.due("14: run() has no such limit", x.verdict(1, 0, 3), 1000);
    }

    private static void leastSuites() {
        // Each test sees some of the funs' RETURNs altered (and each PUSH 1 of theirs).
        String funs = "unit u{fun a(){return 1;}fun b(){return 1;}fun c(){return 1;}fun d(){return 1;}";
        TestHouse x = Checks.house(funs + "test t{check a()==1;check b()==1;}test s{check c()==1;}test r{check b()==1;check c()==1;}"
                + "test q{check a()==1;check d()==1;}}",
                funs + "test t{check 1;}test s{check d()==1;}test r{check a()==1;}test q{check b()==1;check a()==1;}"
                + "test p{check b()==1;check c()==1;}test o{check c()==1;check a()==1;}}");
        Checks.due("26: MUTANTS", x.kill(0), 8);
        Checks.dueRow("26: q and r", i -> x.least(0, i - 1), 2, 2, 3, BAD);
        Checks.due("26: MUTANTS", x.kill(1), 8);
        // 1, 2, 4 and 1, 3, 4 and 1, 3, 5 and 1, 4, 5 do; 1, 2, 4 is the one that is less.
        Checks.dueRow("26: 1, 2, 4", i -> x.least(1, i - 1), 3, 1, 2, 4, BAD);
        x.twin(1, 1);
        Checks.due("26: stays", x.least(1, 1), 2);
        x.rule(0, -1, 0, false, 1);
        Checks.due("26: without b", x.kill(1), 6);
        Checks.dueRow("26: 1, 5", i -> x.least(1, i - 1), 2, 1, 5, BAD);
    }

    private static void promises27And28() {
        TestHouse x = Checks.house("unit u{shared s=0;fun d(a){return a;}prop h(a){check a<1000;s=s+1;check s==1;check draw 2==0;}"
                + "prop p(a,b){check a<5;}prop z(a){raise 0;}prop y(a){check 1/(a+1);}prop n(a){check -3<=a;}"
                + "prop m(a,b){check d(a)+b<9;}}");
        Checks.due("28: without one", x.small(-1), BAD);
        Checks.due("27: parcel", x.property(1, 0, 1), BAD);
        Checks.due("27: prop", x.property(0, 6, 1), BAD);
        Checks.due("27: prop", x.property(0, -1, 1), BAD);
        Checks.due("27: n", x.property(0, 0, 0), BAD);
        Checks.due("27: n", x.property(0, 0, 201), BAD);
        Checks.due("28: BAD changes nothing", x.small(-2), BAD);
        Checks.due("27: held", x.property(0, 0, 200), 1);
        Checks.dueRow("28: held", i -> x.small(i - 3), BAD, 200, 0, BAD);
        // At first both numbers are 0: nothing is SMALLER.
        Checks.due("27: fails by 0", x.property(0, 2, 3), 0);
        Checks.dueRow("28: fails by 0", i -> x.small(i - 3), BAD, 1, 0, 0, BAD);
        Checks.due("27: 5 is small", x.property(0, 1, 200), 0);
        Checks.dueRow("28: 5 is small, and 0", i -> x.small(i - 1), 5, 5, 0, BAD);
        Checks.due("27: -1 is small", x.property(0, 3, 200), 0);
        Checks.dueRow("28: by 5 or 1", i -> x.small(i - 1), 5, 1, BAD);
        x.seed(4);
        Checks.due("27: -4 is small", x.property(0, 4, 200), 0);
        Checks.dueRow("28", i -> x.small(i - 1), 5, -4, BAD);
        Checks.due("27: a sum", x.property(0, 5, 200), 0);
        Checks.due("28: a sum", x.small(0) + x.small(1), 9);
        int times = x.small(-2);
        Checks.due("27: once more", x.property(0, 5, 200), 0);
        Checks.due("28: the same", x.small(-2), times);
        Checks.due("27: BAD", x.property(0, 6, 200), BAD);
        Checks.due("28: stays", x.small(-2), times);
        // DOUBLES of funs count in these runs, too; what they had does not.
        x.twin(0, 1);
        x.rule(0, -1, 0, true, 44);
        Checks.due("27: a DOUBLE", x.property(0, 5, 1), 0);
        Checks.due("28: a DOUBLE", x.small(-1), 44);
        Checks.due("22: not told", x.calls(0, -1, 0), 0);
        tries();
    }

    /** The numbers that are tried: s grows from 0 to 60, y goes on. */
    private static void tries() {
        int y = 77;
        for (int t = 0; t < 70; t++) {
            int s = Math.min(t, 60);
            int[] pair = new int[2];
            for (int j = 0; j < 2; j++) {
                y = y * 1103515245 + 12345;
                pair[j] = (y >>> 16) % (2 * s + 1) - s;
            }
            if (t == 6 || t == 33 || t == 69) {
                // Fails for just this pair: unless a SMALLER one was met ahead, this is what is small.
                TestHouse x = Checks.house("unit u{prop p(a,b){check a!=" + pair[0] + " or b!=" + pair[1] + ";}}");
                x.seed(77);
                Checks.due("27: does not hold at " + t, x.property(0, 0, t + 1), 0);
                Checks.due("28: a of " + t, x.small(0), pair[0]);
                Checks.due("28: b of " + t, x.small(1), pair[1]);
                Checks.due("27: held up to " + t, x.property(0, 0, t), t == 0 ? BAD : 1);
            }
        }
    }

    private static void propertiesThatAreSpent() {
        // Each time its code makes 8 + 9 * 13 = 125 STEPS.
        TestHouse x = Checks.house("unit u{prop p(a){let i=0;while i<13{i=i+1;}}prop q(a){if -9<a and a<9{return 0;}while 1{}}}");
        Checks.due("27: 20000 STEPS", x.property(0, 0, 160), 1);
        Checks.due("28: 20000 STEPS", x.small(-2), 160);
        Checks.due("27: more", x.property(0, 0, 161), SPENT);
        Checks.due("28: nothing is changed", x.small(-2), 160);
        x.steps(10);
        Checks.due("27: fails by 6", x.property(0, 0, 1), 0);
        Checks.due("28: fails by 6", x.small(-1), 6);
        x.steps(1000);
        Checks.due("27: while it is made small", x.property(0, 1, 100), 0);
        Checks.due("28: 6 is no end there", x.small(-1), 6);
    }

    private static void promise29() {
        TestHouse x = new TestHouse();
        Checks.due("29", x.smaller(0, 0), NONE);
        Checks.dueRow("29: 1", i -> x.smaller(1, i), 0, NONE);
        Checks.dueRow("29: -1", i -> x.smaller(-1, i), 0, 1, NONE);
        Checks.dueRow("29: 2", i -> x.smaller(2, i), 0, 1, NONE);
        Checks.dueRow("29: -2", i -> x.smaller(-2, i), 0, 2, -1, NONE);
        Checks.dueRow("29: 100", i -> x.smaller(100, i), 0, 50, 75, 88, 94, 97, 99, NONE);
        Checks.dueRow("29: -7", i -> x.smaller(-7, i), 0, 7, -4, -6, NONE, NONE);
        Checks.dueRow("29: -3", i -> x.smaller(-3, i), 0, 3, -2, NONE);
        Checks.due("29: greatest", x.smaller(Integer.MAX_VALUE, 30), Integer.MAX_VALUE - 1);
        Checks.due("29: greatest", x.smaller(Integer.MAX_VALUE, 31), NONE);
        Checks.due("29: least", x.smaller(Integer.MIN_VALUE, 2), -1073741824);
        Checks.due("29: least", x.smaller(Integer.MIN_VALUE, 32), -2147483647);
        Checks.due("29: below 0", x.smaller(100, -1), NONE);
        Checks.due("29: far", x.smaller(100, Integer.MAX_VALUE), NONE);
    }

    private static void promise30() {
        TestHouse x = new TestHouse();
        Checks.due("30: kind", x.history(3), BAD);
        Checks.due("30: kind", x.history(-1), BAD);
        for (int n = 0; n < 8; n++) {
            Checks.due("30: number", x.history(n % 3), n);
        }
        Checks.due("30: full", x.history(0), FULL);
        Checks.due("30: BAD ahead", x.history(3), BAD);
    }

    private static void promise31() {
        TestHouse x = new TestHouse();
        Checks.due("31: HISTORY", x.op(0, 0, 0, 0, 0, 0), BAD);
        x.history(0);
        Checks.due("31: HISTORY", x.op(1, 0, 0, 0, 0, 0), BAD);
        Checks.due("31: HISTORY", x.op(-1, 0, 0, 0, 0, 0), BAD);
        Checks.due("31: what", x.op(0, 2, 0, 0, 0, 0), BAD);
        Checks.due("31: what", x.op(0, -1, 0, 0, 0, 0), BAD);
        Checks.due("31: FROM", x.op(0, 0, 0, 0, -1, 0), BAD);
        Checks.due("31: FROM", x.op(0, 0, 0, 0, 1001, 1001), BAD);
        Checks.due("31: TO", x.op(0, 0, 0, 0, 0, 1001), BAD);
        Checks.due("31: TO", x.op(0, 0, 0, 0, 0, -1), BAD);
        Checks.due("31: TO", x.op(0, 0, 0, 0, 5, 4), BAD);
        for (int n = 1; n <= 8; n++) {
            Checks.due("31: how many", x.op(0, n % 2, -n, n * 1000000, n == 1 ? 1000 : 0, 1000), n);
        }
        Checks.due("31: full", x.op(0, 0, 0, 0, 0, 0), FULL);
        Checks.due("31: BAD ahead", x.op(0, 2, 0, 0, 0, 0), BAD);
    }

    private static int history(TestHouse x, int kind, int[]... ops) {
        int h = x.history(kind);
        for (int[] o : ops) {
            x.op(h, o[0], o[1], o[2], o[3], o[4]);
        }
        return h;
    }

    private static int[] does(int what, int v, int answer, int from, int to) {
        return new int[] {what, v, answer, from, to};
    }

    private static void linear(String name, int kind, int due, int[]... ops) {
        TestHouse x = new TestHouse();
        Checks.due("32: " + name, x.linear(history(x, kind, ops)), due);
    }

    private static void registers() {
        TestHouse x = new TestHouse();
        Checks.due("32: HISTORY", x.linear(0), BAD);
        Checks.due("32: HISTORY", x.linear(-1), BAD);
        linear("empty", 0, 1);
        linear("first 0", 0, 1, does(1, 9, 0, 0, 0));
        linear("not 1", 0, 0, does(1, 9, 1, 0, 0));
        linear("a write answers 0", 0, 0, does(0, 9, 9, 0, 0));
        linear("read behind a write", 0, 1, does(0, 9, 0, 0, 1), does(1, 0, 9, 2, 3));
        linear("an old number", 0, 0, does(0, 9, 0, 0, 1), does(1, 0, 0, 2, 3));
        linear("at the same time", 0, 1, does(0, 9, 0, 0, 2), does(1, 0, 0, 2, 3));
        linear("two that see each other's past", 0, 0, does(0, 1, 0, 0, 9), does(0, 2, 0, 0, 9), does(1, 0, 1, 10, 11),
                does(1, 0, 2, 12, 13));
        linear("reads in another row", 0, 1, does(1, 0, 2, 0, 9), does(1, 0, 1, 0, 9), does(0, 1, 0, 0, 9), does(0, 2, 0, 0, 9));
    }

    private static void counters() {
        linear("sum", 1, 1, does(0, 5, 5, 0, 1), does(0, -2, 3, 2, 3), does(1, 0, 3, 4, 4));
        linear("no sum", 1, 0, does(0, 5, 5, 0, 1), does(0, -2, -2, 2, 3));
        linear("the later one first", 1, 1, does(0, 5, 3, 0, 9), does(0, -2, -2, 2, 3));
        linear("an add answers no 0", 1, 0, does(0, 5, 0, 0, 1));
        linear("running over", 1, 1, does(0, Integer.MAX_VALUE, Integer.MAX_VALUE, 0, 0), does(0, 2, -2147483647, 1, 1),
                does(1, 0, -2147483647, 2, 2));
    }

    private static void queues() {
        linear("empty", 2, 1, does(1, 0, -1, 0, 0));
        linear("first one", 2, 1, does(0, 4, 0, 0, 0), does(0, 5, 0, 1, 1), does(1, 0, 4, 2, 2), does(1, 0, 5, 3, 3),
                does(1, 0, -1, 4, 4));
        linear("last one", 2, 0, does(0, 4, 0, 0, 0), does(0, 5, 0, 1, 1), does(1, 0, 5, 2, 2));
        linear("a put answers 0", 2, 0, does(0, 4, 4, 0, 0));
        linear("a take of -1", 2, 1, does(0, -1, 0, 0, 0), does(1, 0, -1, 1, 1), does(1, 0, -1, 2, 2));
        linear("twice", 2, 0, does(0, 4, 0, 0, 0), does(1, 0, 4, 1, 9), does(1, 0, 4, 1, 9));
        linear("back and forth", 2, 1, does(1, 0, 6, 0, 9), does(0, 4, 0, 0, 9), does(1, 0, 4, 0, 9), does(0, 6, 0, 0, 9),
                does(1, 0, -1, 0, 9));
    }

    private static void places() {
        TestHouse x = new TestHouse();
        int h = history(x, 0, does(1, 0, 2, 0, 9), does(1, 0, 1, 0, 9), does(0, 1, 0, 0, 9), does(0, 2, 0, 0, 9));
        // 2 1 3 0 or 3 0 2 1.
        Checks.dueRow("33", i -> x.place(h, i), 2, 1, 3, 0, BAD);
        Checks.due("33: place", x.place(h, -1), BAD);
        Checks.due("33: HISTORY", x.place(1, 0), BAD);
        int g = history(x, 2, does(1, 0, 6, 0, 9), does(0, 4, 0, 0, 9), does(1, 0, 4, 0, 9), does(0, 6, 0, 0, 9),
                does(1, 0, -1, 0, 9));
        Checks.dueRow("33", i -> x.place(g, i), 1, 2, 3, 0, 4, BAD);
        int f = history(x, 0, does(0, 1, 0, 3, 3), does(0, 1, 0, 2, 2), does(0, 1, 0, 1, 1));
        Checks.dueRow("33: by TO and FROM", i -> x.place(f, i), 2, 1, 0, BAD);
        x.op(f, 1, 0, 8, 0, 9);
        Checks.due("32: not any more", x.linear(f), 0);
        Checks.due("33: not LINEAR", x.place(f, 3), NONE);
        Checks.due("33: no such place ahead", x.place(f, 4), BAD);
    }

    private static void promises34And35() {
        TestHouse x = Checks.house("unit u{test a{check draw 2+draw 3<2;}test b skip{}test c{check 0;}test d{check 1;}"
                + "test e{if draw 2{check draw 3;}else{raise draw 2;}}test f raises 3{try{check draw 4;}catch e{check draw 0;}}"
                + "test g{check draw 1;}test h{check not draw 1;}before{check 1;}after{check 1;}}");
        Checks.due("35: without one", x.share(0), BAD);
        Checks.due("34: CASE", x.luck(0, 8), BAD);
        Checks.due("34: CASE", x.luck(0, -1), BAD);
        Checks.due("34: parcel", x.luck(1, 0), BAD);
        int[][] due = {{6, 1, 2}, {1, 0, 1}, {1, 0, 1}, {1, 1, 1}, {5, 1, 3}, {4, 1, 4}, {1, 0, 1}, {1, 1, 1}};
        for (int c = 0; c < due.length; c++) {
            Checks.due("34: CASE " + c, x.luck(0, c), due[c][0]);
            Checks.due("35: CASE " + c, x.share(0), due[c][1]);
            Checks.due("35: CASE " + c, x.share(1), due[c][2]);
        }
        Checks.due("35: what", x.share(2), BAD);
        Checks.due("35: what", x.share(-1), BAD);
        Checks.due("18: luck() is not told there", x.told(0), BAD);
        // DRAWS of STARTS, befores and afters are DRAWS, too; the SEED is not looked at.
        TestHouse y = Checks.house("unit u{before{check draw 2;}test t{check v.x;}after{check not draw 5;}}"
                + "unit v{var x=0;start{x=draw 3;}}");
        y.seed(99);
        // 1 stops in the before, and 5 rows behind that; behind the other one 3 of 5.
        Checks.due("34: all of them", y.luck(0, 0), 5 + 15);
        Checks.due("35: 1/2 2/3 1/5", y.share(0), 1);
        Checks.due("35: 1/2 2/3 1/5", y.share(1), 15);
        // Alone: what is shared is as told; and DOUBLES count.
        TestHouse z = Checks.house("unit u{shared s=0;fun f(){return draw 4;}test t{s=s+1;check s==1;check f()==2;}}");
        Checks.due("34: alone", z.luck(0, 0), 4);
        Checks.due("35: alone", z.share(1), 4);
        z.twin(0, 1);
        z.rule(0, -1, 0, false, 2);
        Checks.due("34: a DOUBLE", z.luck(0, 0), 1);
        Checks.due("35: a DOUBLE", z.share(1), 1);
    }

    private static void luckThatIsSpent() {
        TestHouse x = Checks.house("unit u{test a{check draw 400;}test b{check draw 401;}test c{check draw 20+draw 20;}"
                + "test d{check draw 20+draw 20;draw1();}fun draw1(){return draw 999999999*2;}test e{check draw 20;let i=0;"
                + "while i<109{i=i+1;}}test f{if draw 21{}let i=0;while i<109{i=i+1;}}}");
        x.steps(1000);
        Checks.due("34: 400 rows", x.luck(0, 0), 400);
        Checks.due("35", x.share(0), 399);
        Checks.due("34: 401 rows", x.luck(0, 1), SPENT);
        Checks.due("35: stays", x.share(0), 399);
        Checks.due("34: 400 rows", x.luck(0, 2), 400);
        Checks.due("34: many more", x.luck(0, 3), SPENT);
        // e: a row in which 0 is drawn is short; the 19 others make less than 20000 STEPS.
        Checks.due("34: 19 long rows", x.luck(0, 4), 20);
        Checks.due("34: 21 long rows", x.luck(0, 5), SPENT);
        Checks.due("35: stays", x.share(0), 19);
    }

    private static String falls(int many, String within) {
        return "test t" + many + "{let c=0;while c<" + many + "{c=c+1;if draw 2{" + within + "}}}";
    }

    private static void luckThatIsFine() {
        TestHouse x = Checks.house("unit u{" + falls(29, "raise 1;") + falls(30, "raise 1;") + falls(31, "return 1;")
                + "test s{" + "if draw 2{check not draw 3;return 0;}if draw 2{check not draw 5;return 0;}raise 1;}"
                + "fun d(n){check not draw n;}test p{if draw 2{d(3);return 0;}if draw 2{d(5);return 0;}if draw 2{d(7);return 0;}"
                + "if draw 2{d(11);return 0;}if draw 2{d(13);return 0;}if draw 2{d(17);return 0;}if draw 2{d(19);return 0;}"
                + "if draw 2{d(23);return 0;}raise 1;}test q{if draw 2{d(23);return 0;}check draw 999;" + "}}");
        x.steps(1000);
        Checks.due("34: 30 rows", x.luck(0, 0), 30);
        Checks.due("35: one of them", x.share(0), 1);
        Checks.due("35: 2 to the 29th", x.share(1), 536870912);
        // The row that PASSED has 2 to the 30th below the line.
        Checks.due("34: FINE", x.luck(0, 1), FINE);
        Checks.due("35: stays", x.share(1), 536870912);
        Checks.due("34: FINE, though the sum were 1", x.luck(0, 2), FINE);
        Checks.due("34: 1/6 and 1/20", x.luck(0, 3), 9);
        Checks.due("35: 13", x.share(0), 13);
        Checks.due("35: / 60", x.share(1), 60);
        edgesOfFine();
        // No row is FINE, but their sum: 3 5 7 11 13 17 19 23 are 111546435, and there are halves.
        Checks.due("34: a sum that is FINE", x.luck(0, 4), FINE);
        Checks.due("34: SPENT", x.luck(0, 5), SPENT);
    }

    private static void edgesOfFine() {
        String nine = "check not draw 10;".repeat(8);
        TestHouse x = Checks.house("unit u{test a{" + nine + "check not draw 10;}test b{" + nine + "check draw 10<2;}test c{" + nine
                + "let d=draw 10;if d<2{return 1;}if d==2{check draw 2;return 1;}raise 1;}test d{" + nine
                + "let d=draw 10;if d<3{return 1;}if d==3{check draw 2;check 0;}raise 1;}}");
        x.steps(1000);
        Checks.due("34: 1000000000 below the line", x.luck(0, 0), 82);
        Checks.due("35: 1000000000 below the line", x.share(1), 1000000000);
        Checks.due("34: in lowest terms", x.luck(0, 1), 82);
        Checks.due("35: in lowest terms", x.share(0), 1);
        Checks.due("35: in lowest terms", x.share(1), 500000000);
        // Two of 1000000000 and one of 2000000000 would be one of 400000000.
        Checks.due("34: a row that is FINE, its sum is not", x.luck(0, 2), FINE);
        // A row that is FINE, but did not PASS, is nothing.
        Checks.due("34: a row that is FINE and fails", x.luck(0, 3), 83);
        Checks.due("35: three", x.share(0), 3);
    }

    private static void promises36And37() {
        String unit = "unit u{shared s=0;shared r=0;test a{s=1;}test b{r=1;}test c skip{check 0;}test d{check s+r<1;}"
                + "test e{check s+r<2;}test f{s=5;}test g{check s==r;}test h{check 0;}test i{check 1;}}";
        TestHouse x = Checks.house(unit);
        Checks.due("36: CASE", x.blame(0, 9), BAD);
        Checks.due("36: CASE", x.blame(0, -1), BAD);
        Checks.due("36: parcel", x.blame(1, 0), BAD);
        Checks.due("37: without one", x.blamed(0), BAD);
        Checks.due("36: SKIPPED", x.blame(0, 2), NONE);
        Checks.due("36: PASSED", x.blame(0, 8), NONE);
        Checks.due("36: PASSED, none ahead", x.blame(0, 0), NONE);
        Checks.due("36: not PASSED alone", x.blame(0, 7), NONE);
        Checks.due("37: still without", x.blamed(0), BAD);
        // d: a is left out first, as b is enough.
        Checks.due("36: d", x.blame(0, 3), 1);
        Checks.dueRow("37: d", i -> x.blamed(i - 1), BAD, 1, BAD);
        Checks.due("36: e", x.blame(0, 4), 2);
        Checks.dueRow("37: e", i -> x.blamed(i), 0, 1, BAD);
        Checks.due("36: g", x.blame(0, 6), 1);
        Checks.dueRow("37: g", i -> x.blamed(i), 5, BAD);
        Checks.due("36: BAD", x.blame(0, 9), BAD);
        Checks.due("36: NONE", x.blame(0, 7), NONE);
        Checks.due("37: stays", x.blamed(0), 5);
        // In its ORDER: d comes first, g ahead of f, and b ahead of a.
        x.swap(0, 0, 3);
        Checks.due("36: nothing ahead", x.blame(0, 3), NONE);
        Checks.due("36: e", x.blame(0, 4), 2);
        Checks.dueRow("37: e", i -> x.blamed(i), 1, 0, BAD);
        // What is needed only with others is left out in a later turn.
        TestHouse y = Checks.house("unit u{shared s=0;shared k=0;test a{k=1;}test b{if k{s=s+1;}}test c{k=0;s=s+1;}test d{k=2;s=s*1;}"
                + "test e{check s+k==0;}}");
        Checks.due("36: turns", y.blame(0, 4), 1);
        Checks.due("37: turns", y.blamed(0), 3);
        TestHouse z = Checks.house("unit u{shared p=0;shared q=0;test a{q=q+1;}test b{if q==1{p=1;}if q==2{p=0;}if q==0{p=1;}}"
                + "test c{if q==1{p=1;}q=5;}test d{check p==0;}}");
        Checks.due("36: one that is enough", z.blame(0, 3), 1);
        Checks.due("37: one that is enough", z.blamed(0), 1);
        spentBlame();
    }

    private static void spentBlame() {
        StringBuilder text = new StringBuilder("unit u{shared s=0;");
        for (int i = 0; i < 15; i++) {
            text.append("test t").append(i).append("{").append(i == 0 ? "s=1;" : "").append("while 1{}}");
        }
        TestHouse x = Checks.house(text + "test l{check s==0;}}", "unit u{shared s=0;test a{s=1;}test b{check s==0;}}");
        Checks.due("36", x.blame(1, 1), 1);
        // 15 runs of 14 .. with 100 STEPS each, and so again: too many; with 20 they are few.
        x.steps(100);
        Checks.due("36: SPENT", x.blame(0, 15), 1);
        x.steps(300);
        Checks.due("36: SPENT", x.blame(0, 15), SPENT);
        x.steps(1000);
        Checks.due("36: SPENT", x.blame(0, 15), SPENT);
        Checks.due("36: PASSED ahead of it", x.blame(0, 0), NONE);
        Checks.due("37: stays", x.blamed(0), 0);
    }

    private static final String CALLER = "unit u{var own1=3;own fun h(){return own1;}test a{check m.f(2,1)==1;}test b{check m.k==3;}"
            + "test c{m.s=1;}test d{check m.r[3];}test e{m.g();}test f{check h()==3;}test g{m.v=1;}}"
            + "unit m{const k=3;shared s=0;row r[4];fun f(a,b){return a-b;}fun g(){return 1;}var v=1;test z{check 0;}}";

    private static void promise38() {
        TestHouse x = Checks.house("unit u{}", "unit v{}");
        Checks.due("38: old", x.build(2, 0), BAD);
        Checks.due("38: old", x.build(-1, 0), BAD);
        Checks.due("38: new", x.build(0, 2), BAD);
        Checks.due("38: new", x.build(0, -1), BAD);
        for (int n = 0; n < 8; n++) {
            Checks.due("38: number", x.build(n % 2, n / 4), n);
        }
        Checks.due("38: full", x.build(0, 0), FULL);
        Checks.due("38: BAD ahead", x.build(0, 2), BAD);
    }

    private static void promise39() {
        TestHouse x = Checks.house(CALLER, "unit m{const k=4;var s=1;row r[3];own fun f(a,b){return 1;}fun g(a){return 2;}test v{}}",
                "unit q{}", "unit u{}");
        x.build(0, 1);
        x.build(0, 2);
        x.build(0, 3);
        x.build(0, 0);
        Checks.due("39: BUILD", x.foretold(4, 0), BAD);
        Checks.due("39: BUILD", x.foretold(-1, 0), BAD);
        Checks.due("39: instruction", x.foretold(0, -1), BAD);
        Checks.due("39: instruction", x.foretold(0, x.count(0, 3)), BAD);
        int looked = 0;
        long[] due = {12, 11, 0, 13, 10};
        int[] operations = {7, 4, 5, 7, 4};
        for (int i = 0; i < x.count(0, 3); i++) {
            int operation = x.code(0, i, 0);
            boolean looks = looked < due.length && operation == operations[looked] && x.code(0, i, 1) >= 2;
            Checks.due("39: instruction " + i, x.foretold(0, i), looks ? due[looked] : NONE);
            looked += looks ? 1 : 0;
            Checks.due("39: nothing was replaced " + i, x.foretold(1, i), NONE);
            Checks.due("39: of the replaced unit " + i, x.foretold(2, i), NONE);
            Checks.due("39: all were replaced " + i, x.foretold(3, i), NONE);
        }
        Checks.due("39: all of them", looked, due.length);
        // An instruction of a unit that is left, of a unit that was replaced; not the other way.
        TestHouse y = Checks.house("unit a{var x=1;fun f(){return b.y;}}unit b{var y=1;fun g(){return a.x;}}", "unit b{}");
        y.build(0, 0);
        y.build(0, 1);
        Checks.dueRow("39", i -> y.foretold(1, i), 10, NONE, NONE, NONE, NONE, NONE, NONE, NONE, BAD);
    }

    private static void promise40() {
        TestHouse x = Checks.house(CALLER, "unit m{const k=4;var s=1;row r[3];own fun f(a,b){return 1;}fun g(a){return 2;}test v{}}",
                "unit m{const k=4;shared s=8;row r[5];fun f(a,b){return n.d(a)+b;}fun g(){raise 3;}own var v=1;start{s=s+1;}}"
                + "unit n{fun d(a){check draw 1==0;return a/(a-2);}}");
        x.build(0, 1);
        x.build(0, 2);
        x.build(1, 0);
        Checks.due("40: BUILD", x.touch(3, 0), BAD);
        Checks.due("40: BUILD", x.touch(-1, 0), BAD);
        Checks.due("40: CASE", x.touch(0, 8), BAD);
        Checks.due("40: CASE", x.touch(0, -1), BAD);
        Checks.due("40: its unit was replaced", x.touch(0, 7), NONE);
        Checks.due("40: its unit was replaced", x.touch(2, 0), NONE);
        Checks.due("18: nothing was touched", x.told(0), BAD);
        touched(x, 0, 0, 2, 12, 6, 3);
        // The numbers of const stay as they were.
        touched(x, 0, 1, 1, 0, NONE, 6);
        touched(x, 0, 2, 2, 11, 19, 2);
        touched(x, 0, 3, 2, 2, 23, 2);
        touched(x, 0, 4, 2, 13, 27, 1);
        touched(x, 0, 5, 1, 0, NONE, 8);
        touched(x, 0, 6, 2, 10, 38, 2);
        // The other one: START of m is GET PUSH ADD PUT PUSH RETURN; f is LOAD CALL ..
        Checks.due("7: d", x.member(2, 6, 4), 17);
        touched(x, 1, 0, 2, 1, 1000 + 17 + 9, 3 + 6 + 2 + 10);
        Checks.due("18: DRAWS", x.told(3), 1);
        touched(x, 1, 2, 1, 0, NONE, 4 + 6);
        touched(x, 1, 3, 2, 5, 24, 3 + 6);
        touched(x, 1, 4, 2, 3, 1000 + x.member(2, 4, 4) + 1, 1 + 6 + 2);
        touched(x, 1, 6, 2, 12, 38, 2);
        Checks.due("40: NONE", x.touch(1, 7), NONE);
        Checks.due("18: stays", x.told(0), 12);
        // 10 .. 13 are caught, and ahead of a START.
        TestHouse y = Checks.house("unit u{test t{try{m.f();}catch e{check e==10;}check m.g()==5;}before{m.g();}after{check m.g()==5;}}"
                + "unit m{fun f(){}fun g(){}}", "unit m{var n=4;start{n=5;}fun g(){return n;}}", "unit m{fun g(){}start{raise 1;}}");
        y.build(0, 1);
        y.build(0, 2);
        Checks.due("40: caught", y.touch(0, 0), 1);
        Checks.due("40: the START of the new one", y.touch(1, 0), 3);
        Checks.due("40: by 8", y.told(0), 8);
        TestHouse z = Checks.house("unit u{test t{check m.g(4)==5;}}unit m{fun g(a){}}", "unit m{fun g(a){let b=a;while 1{}}}",
                "unit m{row r[2];fun g(a){check v.f(a);}}unit v{start{r[5]=w.x;}row r[5];fun f(a){return r[a-4];}}unit w{var x=1;}");
        z.build(0, 1);
        z.build(0, 2);
        // PUSH CALL; LOAD STORE, then PUSH JUMPZ JUMP: 196 = 65 * 3 + 1.
        touched(z, 0, 0, 2, 6, 1003, 200);
        touched(z, 1, 0, 2, 8, 1001, 2 + 2 + 3);
        Checks.due("15: touch() is no run()", y.verdict(0, 0, 0), NONE);
    }

    private static void touched(TestHouse x, int b, int c, int verdict, int failure, int where, int steps) {
        Checks.due("40: touch(" + b + ", " + c + ")", x.touch(b, c), verdict);
        Checks.due("18: FAILURE of touch(" + b + ", " + c + ")", x.told(0), failure);
        Checks.due("18: WHERE of touch(" + b + ", " + c + ")", x.told(1), where);
        Checks.due("18: STEPS of touch(" + b + ", " + c + ")", x.told(2), steps);
    }

    private static void doublesInBuilds() {
        TestHouse x = Checks.house("unit u{fun h(){return 1;}test t{check h()*10+m.f(3)==26;}}unit m{fun f(a){return 2;}}",
                "unit m{fun f(a){return 4;}}unit u2{}");
        x.build(0, 1);
        x.twin(0, 1);
        x.rule(0, -1, 0, false, 7);
        Checks.due("40: 14", x.touch(0, 0), 2);
        Checks.due("22: a DOUBLE of what was replaced", x.calls(0, -1, 0), 0);
        x.twin(1, 0);
        x.rule(1, 0, 3, false, 6);
        x.twin(0, 0);
        x.rule(2, -1, 0, false, 2);
        Checks.due("40: 26", x.touch(0, 0), 1);
        Checks.due("22: of the new one", x.calls(1, -1, 0), 1);
        Checks.due("22: its argument", x.calls(1, 0, 0), 3);
        Checks.due("22: of the old one's unit", x.calls(2, -1, 0), 1);
        Checks.due("40: NONE", x.touch(0, 1), BAD);
        Checks.due("22: stays", x.calls(1, -1, 0), 1);
        x.alone(0, 0);
        Checks.due("22: another run", x.calls(1, -1, 0), 0);
        Checks.due("22: another run", x.calls(0, -1, 0), 1);
    }
}
