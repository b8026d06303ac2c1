import java.io.IOException;
import java.util.ArrayList;
import java.util.Arrays;
import java.util.List;

/**
 * Each sentence of the sections 4 to 8, of WORK and of the promises 23 to 40 that names a boundary, as it stands in the
 * document, and what it asks for just ahead of the boundary, at it and behind it.
 */
public final class EdgesStudyTest {
    private static final int BAD = TestHouse.BAD, NONE = TestHouse.NONE, FULL = TestHouse.FULL, SPENT = TestHouse.SPENT,
            FINE = TestHouse.FINE;
    private static final int LEAST = Integer.MIN_VALUE, GREATEST = Integer.MAX_VALUE;
    private static final int[] FAR = {LEAST, -3, -2, -1, 99, GREATEST};

    public static void main(String[] args) throws IOException {
        Checks.readDocument(args);
        whichHaveMutants();
        whatMutantsDo();
        whatKills();
        leastSuites();
        propsAlone();
        triedNumbers();
        smallNumbers();
        registers();
        counters();
        queues();
        rows();
        rowsOfDraws();
        blamed();
        builds();
        lookedUp();
        lookedUpAheadOfStarts();
        twoSides();
        workOfKill();
        workOfProperty();
        workOfSmall();
        workOfLuck();
        workOfBlame();
        whatStays();
        promise23();
        promise24();
        promise25();
        promise26();
        promise27();
        promise28();
        promise29();
        promise30();
        promise31();
        promise32();
        promise33();
        promise34();
        promise35();
        promise36();
        promise37();
        promise38();
        promise39();
        promise40();
        Checks.duePromises(23, 40);
        Checks.end("EdgesStudyTest");
    }

    private static String repeated(int from, int to, String text) {
        StringBuilder out = new StringBuilder();
        for (int i = from; i <= to; i++) {
            out.append(text.replace("#", "" + i));
        }
        return out.toString();
    }

    /** STATEMENTS that make just so many STEPS (not 1). */
    private static String filler(int steps) {
        int turns = steps < 40 ? 0 : (steps - 6) / 9 - 1;
        int rest = turns == 0 ? steps : steps - 6 - 9 * turns;
        String loop = turns == 0 ? "" : "let i=0;while i<" + turns + "{i=i+1;}";
        return loop + (rest % 2 == 1 ? "check -1;" : "") + "check 1;".repeat(rest % 2 == 1 ? (rest - 3) / 2 : rest / 2);
    }

    // ---- 4 MUTANTS

    private static final String ALL = "let c=a;v=c;v=r[a];r[a]=a;f(a);let d=a+a-a*a/a%a;let e=a<a and a<=a or a==a;e=not a!=-a;"
            + "e=draw a;if a{}else{}while a{}try{}catch g{}check a;raise a;return k+v;";

    private static void whichHaveMutants() {
        Checks.says("4 MUTANTS of a parcel: each instruction of codes of funs and starts that is one of these has one, numbered in order,");
        String members = "const k=4;var v=1;row r[2];";
        TestHouse x = Checks.house("unit u{before{let a=1;" + ALL + "}" + members + "fun f(a){" + ALL + "}test t{let a=1;" + ALL + "}}",
                "unit u{prop p(a){" + ALL + "}" + members + "start{let a=1;" + ALL + "}after{let a=1;" + ALL + "}fun f(a){" + ALL + "}}",
                "unit u{" + members + "fun f(a){}before{let a=1;" + ALL + "}}");
        // What each operation becomes; NONE: it has no MUTANT.
        int[] instead = {0, NONE, NONE, NONE, 9, NONE, 33, 32, 34, NONE, 11, 10, 13, 12, 12, 16, 15, 18, 17, 20, 19, 30, 30, NONE, 31,
            NONE, NONE, NONE, 9, 9};
        int f = x.member(0, 3, 4);
        int end = x.about(0, 0, 4);
        mutantsDue(x, 0, instead, f, end, 0, 0);
        int start = end - f;
        int second = x.member(1, 3, 4);
        // The start has two instructions more than f; the prop and the after are as long as f and as the start.
        mutantsDue(x, 1, instead, start, 2 * start + 2, second, x.count(1, 3));
        mutantsDue(x, 2, instead, 0, 2, 0, 0);
        Checks.due("nothing of all operations is left out", seen(x, f, end), 30);
    }

    private static int seen(TestHouse x, int from, int to) {
        int mask = 0;
        for (int i = from; i < to; i++) {
            mask |= 1 << x.code(0, i, 0);
        }
        return Integer.bitCount(mask);
    }

    /** The MUTANTS of the instructions from .. to - 1 and more .. last - 1, and no other ones. */
    private static void mutantsDue(TestHouse x, int p, int[] instead, int from, int to, int more, int last) {
        int k = 0;
        for (int i = 0; i < x.count(p, 3); i++) {
            int becomes = i >= from && i < to || i >= more && i < last ? instead[x.code(p, i, 0)] : NONE;
            if (becomes != NONE) {
                Checks.due("instruction of " + k, x.mutant(p, k, 0), i);
                Checks.due("instead of " + i, x.mutant(p, k, 1), becomes);
                k++;
            }
        }
        Checks.due("how many of " + p, x.count(p, 6), k);
        Checks.due("no more of " + p, x.mutant(p, k, 0), BAD);
    }

    /**
     * An EXPR is one number, and, with the first MUTANT of an operation, another one (or the same); of one that fails it
     * is the FAILURE less 100000.
     */
    private static void becomes(String members, String expr, int operation, int was, int is) {
        int cut = members.contains("unit") ? members.indexOf("unit") : members.length();
        String caught = "test t#{try{raise 100000+(" + expr + ");}catch e{raise e==$;}}";
        TestHouse x = Checks.house("unit u{" + members.substring(0, cut) + caught.replace("#", "1").replace("$", "" + (100000 + was))
                + caught.replace("#", "2").replace("$", "" + (100000 + is)) + "}" + members.substring(cut));
        x.run(0);
        Checks.due(members + expr + " was " + was, x.verdict(0, 0, 1), 1);
        x.kill(0);
        int k = 0;
        while (x.mutant(0, k, 0) != BAD && x.code(0, x.mutant(0, k, 0), 0) != operation) {
            k++;
        }
        Checks.due(members + expr + " is another one", x.killed(0, k, 0), was == is ? 0 : 1);
        Checks.due(members + expr + " is " + is, x.killed(0, k, 1), was == is ? 0 : 1);
    }

    private static void whatMutantsDo() {
        Checks.says("PUSH n PUSH n + 1; ADD SUB, SUB ADD, MUL DIV, DIV MUL, MOD MUL; LT LE, LE LT, EQ NE, NE EQ; AND OR, OR AND; NOT, NEG KEEP "
                + "(nothing); JUMPZ JUMPN (when it is not 0); PUT, CHECK, RAISE POP; ROWPUT POP2 (both go); CALL GONE (the arguments go, 0 "
                + "comes); RETURN ZERO (0 is returned).");
        becomes("fun f(){return 5;}", "f()", 0, 5, 6);
        becomes("const k=-1;fun f(){return k;}", "f()", 0, -1, 0);
        becomes("const k=-9999;fun f(){return k;}", "f()", 0, -9999, -9998);
        becomes("fun f(){}", "f()", 0, 0, 1);
        String[] signs = {"+", "-", "*", "/", "%", "<", "<=", "==", "!=", " and ", " or "};
        int[][] sevenAndTwo = {{9, 5}, {5, 9}, {14, 3}, {3, 14}, {1, 14}, {0, 0}, {0, 0}, {0, 1}, {1, 0}, {1, 1}, {1, 1}};
        int[][] twoAndTwo = {{4, 0}, {0, 4}, {4, 1}, {1, 4}, {0, 4}, {0, 1}, {1, 0}, {1, 0}, {0, 1}, {1, 1}, {1, 1}};
        int[][] twoAndZero = {{2, 2}, {2, 2}, {0, -99999}, {-99999, 0}, {-99999, 0}, {0, 0}, {0, 0}, {0, 1}, {1, 0}, {0, 1}, {1, 0}};
        int[][] zeroAndThree = {{3, -3}, {-3, 3}, {0, 0}, {0, 0}, {0, 0}, {1, 1}, {1, 1}, {0, 1}, {1, 0}, {0, 1}, {1, 0}};
        for (int n = 0; n < signs.length; n++) {
            String f = "fun f(a,b){return a" + signs[n] + "b;}";
            becomes(f, "f(7,2)", 10 + n, sevenAndTwo[n][0], sevenAndTwo[n][1]);
            becomes(f, "f(2,2)", 10 + n, twoAndTwo[n][0], twoAndTwo[n][1]);
            becomes(f, "f(2,0)", 10 + n, twoAndZero[n][0], twoAndZero[n][1]);
            becomes(f, "f(0,3)", 10 + n, zeroAndThree[n][0], zeroAndThree[n][1]);
        }
        for (int a : new int[] {7, 1, 0, -1}) {
            becomes("fun f(a){return not a;}", "f(" + a + ")", 21, a == 0 ? 1 : 0, a);
            becomes("fun f(a){return -a;}", "f(" + a + ")", 22, -a, a);
            becomes("fun f(a){if a{return 8;}return 9;}", "f(" + a + ")", 24, a == 0 ? 9 : 8, a == 0 ? 8 : 9);
            becomes("fun f(a){if a{return 8;}else{return 9;}return 7;}", "f(" + a + ")", 24, a == 0 ? 9 : 8, a == 0 ? 8 : 9);
            becomes("var v=3;fun f(a){v=a;return v;}", "f(" + a + ")", 4, a, 3);
            becomes("shared v=3;fun f(a){v=a;return v;}", "f(" + a + ")", 4, a, 3);
            becomes("fun f(a){check a;return 6;}", "f(" + a + ")", 28, a == 0 ? 5 - 100000 : 6, 6);
            becomes("fun f(a){raise a;return 6;}", "f(" + a + ")", 29, a - 100000, 6);
            becomes("fun f(a){return a;}", "f(" + a + ")", 8, a, 0);
        }
        // A while in which the number is 0 at first is done once; another one not at all.
        becomes("fun f(a){let s=0;while a{s=s+1;a=a-1;}return s;}", "f(0)", 24, 0, 1);
        becomes("fun f(a){let s=0;while a{s=s+1;a=a-1;}return s;}", "f(3)", 24, 3, 0);
        // No index is looked at any more, and what stands below stays.
        becomes("row r[2];fun f(a){r[a]=8;return r[0];}", "f(0)", 6, 8, 0);
        becomes("row r[2];fun f(a){r[a]=8;return r[0];}", "f(5)", 6, 2 - 100000, 0);
        becomes("row r[2];fun f(a){r[a]=8;return 7;}", "5+f(5)", 6, 2 - 100000, 12);
        becomes("fun f(a){return 5+g(a,a)*2;}fun g(a,b){return a+b;}", "f(3)", 7, 17, 5);
        becomes("fun f(a){return 5-g()*2;}fun g(){return 1;}", "f(3)", 7, 3, 5);
        becomes("fun f(a){return 5-g(a,1,2,a)-4;}fun g(a,b,c,d){return a+d;}", "f(3)", 7, -5, 1);
        becomes("fun f(a){g(a);return 5;}fun g(a){raise a;}", "f(3)", 7, 3 - 100000, 5);
        // Of a start, and one that CALLS, PUTS into a unit whose START fails.
        becomes("var n=1;start{n=6;}fun f(){return n;}", "f()", 4, 6, 1);
        becomes("fun f(){v.n=1;return 3;}unit v{var n=1;start{raise 1;}}", "f()", 4, 8 - 100000, 3);
        becomes("fun f(){return 3+v.g();}unit v{fun g(){}start{raise 1;}}", "f()", 7, 8 - 100000, 3);
    }

    private static void whatKills() {
        Checks.says("A CASE KILLS it when, in a run with it, its VERDICT or FAILURE is another one than in a run without.");
        // JUMPZ is the 2nd instruction of f, and its first MUTANT; behind a LOAD.
        TestHouse x = Checks.house("unit u{fun f(a){if a{check 0;}check 0;}test w{f(1);}test v{f(0);}}",
                "unit u{fun f(a){if a{raise 0;}}test w{f(0);}test v{f(1);}}",
                "unit u{fun f(a){if a{raise 3;}raise 4;}test w raises 3{f(1);}test v raises 5{f(1);}test u skip{f(1);}}",
                "unit u{shared s=0;fun f(a){if a{s=s+1;}}test w{f(1);}test v{check s==1;}test u{check s<2;}}");
        for (int p = 0; p < 4; p++) {
            Checks.due("JUMPZ", x.code(p, x.mutant(p, 0, 0), 0), 24);
            x.kill(p);
        }
        Checks.dueRow("WHERE and STEPS are nothing", c -> x.killed(0, 0, c), 0, 0, BAD);
        Checks.dueRow("FAILURE is 0 both times", c -> x.killed(1, 0, c), 1, 1, BAD);
        Checks.dueRow("its FAILURE alone is another one", c -> x.killed(2, 0, c), 1, 1, 0, BAD);
        Checks.dueRow("in a run of all", c -> x.killed(3, 0, c), 0, 1, 0, BAD);
        Checks.due("by how many", x.mutant(2, 0, 2), 2);
    }

    private static void leastSuites() {
        Checks.says("The LEAST SUITE: the fewest CASES (none, if no MUTANT is killed) that together kill all MUTANTS that all do; of several "
                + "the one whose numbers, rising, are less where they first differ.");
        String funs = "fun a(){return 1;}fun b(){return 1;}fun c(){return 1;}fun d(){return 1;}";
        String[] sees = {"check a()==1;", "check b()==1;", "check c()==1;", "check d()==1;"};
        TestHouse x = Checks.house("unit u{" + funs + "test t{" + sees[0] + sees[1] + "}test s{" + sees[0] + sees[2] + "}test r{" + sees[1]
                + sees[3] + "}test q{" + sees[2] + sees[3] + "}}",
                // The first MUTANT is seen by t alone, the second by s alone, a third by none.
                "unit u{fun a(){return 1;}test r{}test t{check a()<2;}test s{check a();}}",
                "unit u{" + funs + "test t{}test s skip{a();}}", "unit u{test t{}}", "unit u{" + funs + "}",
                "unit u{" + funs + "test t{" + sees[0] + "}test s{" + sees[0] + sees[1] + "}test r{" + sees[0] + sees[1] + sees[2]
                + "}test q{" + sees[0] + sees[1] + sees[2] + sees[3] + "}test p{" + sees[3] + sees[2] + sees[1] + sees[0] + "}}");
        for (int p = 0; p < 6; p++) {
            Checks.due("kill of " + p, x.kill(p) >= 0 ? 1 : 0, 1);
        }
        Checks.dueRow("0 and 3, not 1 and 2", i -> x.least(0, i - 1), 2, 0, 3, BAD);
        Checks.dueRow("the first MUTANT counts", i -> x.least(1, i - 1), 2, 1, 2, BAD);
        for (int p = 2; p < 5; p++) {
            int at = p;
            Checks.dueRow("none of " + p, i -> x.least(at, i - 1), 0, BAD, BAD);
        }
        Checks.dueRow("one, the first that is enough", i -> x.least(5, i - 1), 1, 3, BAD);
        // All of 16.
        StringBuilder text = new StringBuilder("unit u{");
        for (int n = 0; n < 16; n++) {
            text.append(n == 8 ? "}unit v{" : "").append("fun f").append(n).append("(){return 1;}test t").append(n).append("{check f")
                    .append(n).append("()==1;}");
        }
        TestHouse y = Checks.house(text + "}");
        Checks.due("killed", y.kill(0), 32);
        Checks.due("16", y.least(0, -1), 16);
        Checks.dueRow("all of them", i -> y.least(0, i), 0, 1, 2, 3, 4, 5, 6, 7, 8, 9, 10, 11, 12, 13, 14, 15, BAD);
    }

    // ---- 5 PROPERTIES

    private static void propsAlone() {
        Checks.says("A prop HOLDS for numbers when its code, with them as parameters, in a state of its own (shared as told, STEPS, SEED), "
                + "does not fail.");
        TestHouse x = Checks.house("unit u{shared s=5;var v=6;before{raise 1;}after{raise 2;}prop p(a,b,c,d){s=s+1;v=v+1;check s==6;check v==7;"
                + "check draw 65536==16838;}prop q(a){while a==0{}}prop r(a){return 0;}prop w(a){raise 0;}}");
        Checks.due("each in a state of its own", x.property(0, 0, 200), 1);
        Checks.due("times", x.small(-2), 200);
        x.seed(2);
        Checks.due("SEED", x.property(0, 0, 1), 0);
        Checks.due("by 5", x.small(-1), 5);
        x.steps(7);
        Checks.due("STEPS", x.property(0, 1, 1), 0);
        Checks.due("by 6", x.small(-1), 6);
        Checks.due("0 that is returned is no failure", x.property(0, 2, 200), 1);
        Checks.due("a failure by 0 is one", x.property(0, 3, 200), 0);
        Checks.dueRow("a failure by 0", i -> x.small(i - 2), 1, 0, 0, BAD);
    }

    interface Holds {
        boolean of(int[] numbers);
    }

    private static int times;

    private static List<Integer> smallerThan(int v) {
        List<Integer> found = new ArrayList<>();
        if (v != 0) {
            found.add(0);
            if (v < 0) {
                found.add(-v);
            }
            for (long part = 2; v / part != 0; part *= 2) {
                found.add((int) (v - v / part));
            }
        }
        return found;
    }

    /** What is small, or null of one that holds; times is how often it was tried. */
    private static int[] made(int seed, int n, int many, Holds prop) {
        int y = seed;
        times = 0;
        for (int t = 0; t < n; t++) {
            int s = Math.min(t, 60);
            int[] numbers = new int[many];
            for (int j = 0; j < many; j++) {
                y = y * 1103515245 + 12345;
                numbers[j] = (y >>> 16) % (2 * s + 1) - s;
            }
            times++;
            if (!prop.of(numbers)) {
                return shrunk(numbers, prop);
            }
        }
        return null;
    }

    private static int[] shrunk(int[] numbers, Holds prop) {
        for (int j = 0; j < numbers.length; j++) {
            for (int less : smallerThan(numbers[j])) {
                int[] next = numbers.clone();
                next[j] = less;
                times++;
                if (!prop.of(next)) {
                    return shrunk(next, prop);
                }
            }
        }
        return numbers;
    }

    private static void made(String name, int many, String check, Holds prop) {
        TestHouse x = Checks.house("unit u{prop p(" + "a,b,c,d".substring(0, 2 * many - 1) + "){check " + check + ";}}");
        x.steps(1000);
        for (int seed : new int[] {1, 0, -1, 5, 77, LEAST, GREATEST, 123456, -98765, 31}) {
            for (int n : new int[] {1, 2, 3, 30, 60, 61, 62, 63, 120}) {
                x.seed(seed);
                int[] due = made(seed, n, many, prop);
                String call = name + " of SEED " + seed + ", " + n;
                int answer = x.property(0, 0, n);
                Checks.due(call, answer, due == null ? 1 : 0);
                Checks.due(call + " times", x.small(-2), times);
                Checks.due(call + " by", x.small(-1), due == null ? 0 : 5);
                for (int j = 0; j <= 4; j++) {
                    Checks.due(call + " [" + j + "]", x.small(j), due == null || j >= many ? BAD : due[j]);
                }
            }
        }
    }

    private static void triedNumbers() {
        Checks.says("Tried t = 0, 1, ..: each parameter in turn is ((y >>> 16) modulo (2 s + 1)) - s, s = t, 60 at most, y, SEED at first, "
                + "becoming y * 1103515245 + 12345 ahead of each.");
        made("all holds", 1, "1", n -> true);
        made("nothing holds", 4, "0", n -> false);
        made("up to 60", 2, "-61<a and a<61 and -61<b and b<61", n -> true);
        made("60 is met or not", 1, "a!=60", n -> n[0] != 60);
        made("-60 is met or not", 1, "a!=-60", n -> n[0] != -60);
        made("0 at first", 3, "a or b or c", n -> n[0] != 0 || n[1] != 0 || n[2] != 0);
        made("59 and more", 1, "a<59", n -> n[0] < 59);
    }

    private static void smallNumbers() {
        Checks.says("The first that it does not hold for are made small: in turn for each parameter, for each of the SMALLER numbers of it: if "
                + "it does not hold with that instead, that is taken, and all begins anew; till none is taken.");
        made("5 is small", 1, "a<5", n -> n[0] < 5);
        made("-3 or less", 1, "-3<a", n -> -3 < n[0]);
        made("a sum", 2, "a+b<9", n -> n[0] + n[1] < 9);
        made("a difference", 2, "a-b<7", n -> n[0] - n[1] < 7);
        made("far from 0", 4, "-4<a-b+c-d and a-b+c-d<4", n -> Math.abs(n[0] - n[1] + n[2] - n[3]) < 4);
        made("a rest", 3, "a*b%5!=2", n -> n[0] * n[1] % 5 != 2);
        made("the last one alone", 4, "d<20", n -> n[3] < 20);
        made("the first one alone", 4, "a<20", n -> n[0] < 20);
        made("all of them", 4, "a*b*c*d==0", n -> n[0] * n[1] * n[2] * n[3] == 0);
        Checks.says("SMALLER than v, in this order: none for 0; else 0; -v (running over), if v is below 0; v - v / 2, v - v / 4, .. (towards 0) "
                + "as long as what is taken away is not 0.");
        TestHouse x = new TestHouse();
        int[] numbers = {0, 1, -1, 2, -2, 3, -3, 4, -4, 7, -7, 8, -8, 9, 60, -60, 100, 1023, 1024, 1025, -1024, GREATEST, -GREATEST,
            GREATEST - 1, 1 << 30, -(1 << 30), 123456789, LEAST + 2};
        for (int v : numbers) {
            List<Integer> due = smallerThan(v);
            for (int i = 0; i < due.size(); i++) {
                Checks.due("SMALLER than " + v + " [" + i + "]", x.smaller(v, i), due.get(i));
            }
            for (int i = due.size(); i < due.size() + 40; i++) {
                Checks.due("SMALLER than " + v + " [" + i + "]", x.smaller(v, i), NONE);
            }
        }
        // 0, then - v, which runs over, then what is nearer to 0 by 2^30, 2^29 .. 1 from the least number.
        Checks.dueRow("the least number", i -> x.smaller(LEAST, i), 0, LEAST);
        for (int i = 2; i <= 32; i++) {
            Checks.due("the least number [" + i + "]", x.smaller(LEAST, i), LEAST + (1 << 32 - i));
        }
        Checks.due("the least number", x.smaller(LEAST, 33), NONE);
    }

    // ---- 6 HISTORIES

    private static int history(TestHouse x, int kind, int[]... ops) {
        int h = x.history(kind);
        for (int n = 0; n < ops.length; n++) {
            Checks.due("op", x.op(h, ops[n][0], ops[n][1], ops[n][2], ops[n][3], ops[n][4]), n + 1);
        }
        return h;
    }

    private static int[] does(int what, int v, int answer, int from, int to) {
        return new int[] {what, v, answer, from, to};
    }

    private static void linear(int kind, int due, int[]... ops) {
        TestHouse x = new TestHouse();
        Checks.due("kind " + kind + Arrays.deepToString(ops), x.linear(history(x, kind, ops)), due);
    }

    private static void registers() {
        Checks.says("6 HISTORIES (8; of 8 OPS each) are of a REGISTER (0), a COUNTER (1), a QUEUE (2), first 0, 0, empty.");
        for (int kind = 0; kind < 3; kind++) {
            linear(kind, 1);
            for (int answer : new int[] {0, -1, 1, LEAST}) {
                linear(kind, answer == (kind == 2 ? -1 : 0) ? 1 : 0, does(1, 9, answer, 0, 0));
            }
        }
        Checks.says("OPS: 0 write v, add v, put v (answers 0; the sum, running over; 0); 1 read, read, take (answers what it is; the first one, "
                + "-1 when it is empty).");
        for (int v : new int[] {0, 1, -1, 7, LEAST, GREATEST}) {
            linear(0, 1, does(0, v, 0, 0, 0), does(1, 5, v, 1, 1));
            linear(0, v == 0 ? 1 : 0, does(0, v, v, 0, 0));
            linear(1, 1, does(0, v, v, 0, 0), does(1, 5, v, 1, 1));
            linear(1, v == 0 ? 1 : 0, does(0, v, 0, 0, 0));
            linear(2, 1, does(0, v, 0, 0, 0), does(1, 5, v, 1, 1), does(1, 5, -1, 2, 2));
            linear(2, v == 0 ? 1 : 0, does(0, v, v, 0, 0));
        }
    }

    private static void counters() {
        linear(1, 1, does(0, GREATEST, GREATEST, 0, 0), does(0, 1, LEAST, 1, 1), does(1, 0, LEAST, 2, 2));
        linear(1, 1, does(0, LEAST, LEAST, 0, 0), does(0, LEAST, 0, 1, 1), does(1, 0, 0, 2, 2));
        linear(1, 0, does(0, 2, 2, 0, 0), does(0, 3, 3, 1, 1));
        linear(0, 1, does(0, 2, 0, 0, 0), does(0, 3, 0, 1, 1), does(1, 0, 3, 2, 2));
        linear(0, 0, does(0, 2, 0, 0, 0), does(0, 3, 0, 1, 1), does(1, 0, 2, 2, 2));
    }

    private static void queues() {
        linear(2, 1, does(0, 4, 0, 0, 0), does(0, 5, 0, 1, 1), does(1, 0, 4, 2, 2), does(1, 0, 5, 3, 3), does(1, 0, -1, 4, 4));
        linear(2, 0, does(0, 4, 0, 0, 0), does(0, 5, 0, 1, 1), does(1, 0, 5, 2, 2));
        linear(2, 0, does(0, 4, 0, 0, 0), does(1, 0, -1, 1, 1));
        // 8 puts, or 4 and 4 in turn; nothing is left of what another row would have put.
        int[][] puts = new int[8][];
        int[][] both = new int[8][];
        for (int n = 0; n < 8; n++) {
            puts[n] = does(0, n, 0, 0, 1000);
            both[n] = does(n % 2, n, n % 2 == 0 ? 0 : n - 1, n, n);
        }
        linear(2, 1, puts);
        linear(2, 1, both);
        linear(2, 1, does(1, 0, 1, 0, 9), does(1, 0, 2, 0, 9), does(1, 0, 3, 0, 9), does(1, 0, 4, 0, 9), does(0, 4, 0, 0, 9),
                does(0, 3, 0, 0, 9), does(0, 2, 0, 0, 9), does(0, 1, 0, 0, 9));
        linear(2, 0, does(1, 0, 1, 0, 9), does(1, 0, 2, 0, 9), does(1, 0, 3, 0, 9), does(1, 0, 5, 0, 9), does(0, 4, 0, 0, 9),
                does(0, 3, 0, 0, 9), does(0, 2, 0, 0, 9), does(0, 1, 0, 0, 9));
    }

    private static void rows() {
        Checks.says("A HISTORY is LINEAR when its OPS can stand in a row in which each answers as told, and none whose TO is less than the FROM of "
                + "another one stands behind that.");
        // The read of 0 stands ahead of the write, unless the write ended before the read began.
        for (int to = 3; to <= 6; to++) {
            for (int from = 3; from <= 6; from++) {
                linear(0, to < from ? 0 : 1, does(0, 9, 0, 0, to), does(1, 0, 0, from, 9));
                linear(0, to < from ? 0 : 1, does(1, 0, 0, from, 9), does(0, 9, 0, 0, to));
            }
        }
        linear(0, 1, does(0, 9, 0, 1000, 1000), does(1, 0, 0, 1000, 1000));
        linear(0, 0, does(0, 9, 0, 0, 999), does(1, 0, 0, 1000, 1000));
        linear(0, 1, does(0, 9, 0, 0, 0), does(1, 0, 0, 0, 0));
        Checks.says("THE ROW is the one whose OPS' numbers are less where two such rows first differ.");
        TestHouse x = new TestHouse();
        int free = history(x, 1, does(1, 0, 0, 0, 9), does(1, 0, 0, 0, 9), does(1, 0, 0, 0, 9), does(1, 0, 0, 0, 9), does(1, 0, 0, 0, 9),
                does(1, 0, 0, 0, 9), does(1, 0, 0, 0, 9), does(1, 0, 0, 0, 9));
        Checks.dueRow("as they are", i -> x.place(free, i), 0, 1, 2, 3, 4, 5, 6, 7, BAD);
        int turned = history(x, 1, does(1, 0, 0, 7, 7), does(1, 0, 0, 6, 6), does(1, 0, 0, 5, 5), does(1, 0, 0, 4, 4), does(1, 0, 0, 3, 3),
                does(1, 0, 0, 2, 2), does(1, 0, 0, 1, 1), does(1, 0, 0, 0, 0));
        Checks.dueRow("the other way", i -> x.place(turned, i), 7, 6, 5, 4, 3, 2, 1, 0, BAD);
        // 1 can be first as well as 2: 1 is taken, though 0 comes later then.
        int two = history(x, 0, does(1, 0, 5, 0, 9), does(0, 6, 0, 0, 9), does(0, 5, 0, 0, 9), does(1, 0, 6, 0, 9));
        Checks.dueRow("1 3 2 0, not 2 0 1 3", i -> x.place(two, i), 1, 3, 2, 0, BAD);
    }

    // ---- 7 LUCK, BLAME

    private static void lucky(TestHouse x, int c, int rows, int above, int below) {
        Checks.due("LUCK of " + c, x.luck(0, c), rows);
        Checks.dueRow("share of " + c, x::share, above, below, BAD);
    }

    private static void rowsOfDraws() {
        Checks.says("LUCK of a CASE, ALONE: the share of PASSED when each DRAW of n has each of its n numbers alike (of one that is SKIPPED one row, "
                + "not PASSED).");
        TestHouse x = Checks.house("unit u{shared s=0;before{s=s+1;check s==1;}test a skip{check draw 9;}test b{}test c{check 0;}"
                + "test d{check draw 1;}test e{check draw 2;}test f{check draw 3*3+draw 3<8;}test g{check draw 0;}"
                + "test h raises 5{check draw 4;}test i{if draw 2{check draw 3;}else{check draw 5;}}test j{try{raise draw 3;}catch e{check e;}}"
                + "test k raises 3{check draw 2;check draw 0;}after{check 1;}}");
        lucky(x, 0, 1, 0, 1);
        lucky(x, 1, 1, 1, 1);
        lucky(x, 2, 1, 0, 1);
        lucky(x, 3, 1, 0, 1);
        lucky(x, 4, 2, 1, 2);
        lucky(x, 5, 9, 8, 9);
        lucky(x, 6, 1, 0, 1);
        lucky(x, 7, 4, 1, 4);
        lucky(x, 8, 8, 11, 15);
        lucky(x, 9, 3, 2, 3);
        lucky(x, 10, 2, 1, 2);
        // A row of many DRAWS, of which the last one has more than one number.
        TestHouse z = Checks.house("unit u{test a{let i=0;while i<5{i=i+1;check not(draw 1" + "+draw 1".repeat(59) + ");}check draw 2;}}");
        z.steps(1000);
        lucky(z, 0, 2, 1, 2);
        z.alone(0, 0);
        Checks.due("DRAWS", z.told(3), 301);
        // What LUCK drew is nothing for the runs behind it.
        TestHouse y = Checks.house("unit u{test a{check draw 100000==16838;}prop p(a){check draw 100000==16838;}}");
        y.steps(1000);
        Checks.due("too many rows", y.luck(0, 0), SPENT);
        Checks.due("alone draws by SEED", y.alone(0, 0), 1);
        Checks.due("SPENT", y.luck(0, 0), SPENT);
        Checks.due("run draws by SEED", y.run(0), 1);
        Checks.due("SPENT", y.luck(0, 0), SPENT);
        Checks.due("property draws by SEED", y.property(0, 0, 1), 1);
        Checks.due("SPENT", y.luck(0, 0), SPENT);
        y.kill(0);
        Checks.due("run draws by SEED", y.run(0), 1);
    }

    private static void blamed() {
        Checks.says("the CASES ahead of it in ORDER; in turn, from the first, each is left out for good if with the others, in order, and then "
                + "itself, it is not PASSED; so again, till nothing is left out in a whole turn.");
        // a is needed as long as b is there: it is left out in the second turn.
        TestHouse x = Checks.house("unit u{shared k=0;shared h=0;shared s=0;test a{k=1;}test b{if not k{h=1;}}test c{if not h{s=1;}}"
                + "test d{check s==0;}}");
        Checks.due("a second turn", x.blame(0, 3), 1);
        Checks.dueRow("a second turn", x::blamed, 2, BAD);
        // e is needed as long as g is, g as long as c is: three turns, of which the last finds nothing.
        TestHouse y = Checks.house("unit u{shared n=0;shared k=0;shared h=0;shared j=0;shared s=0;test a{n=1;}test b{if not n{k=9;}if n{k=1;}}"
                + "test e{if k==1{h=1;}if k==9{j=1;}}test f{if not h{if j{s=5;}}s=s+1;}test g skip{s=7;}test d{check s!=1;}}");
        Checks.due("d alone", y.alone(0, 5), 1);
        Checks.due("one is enough", y.blame(0, 5), 1);
        Checks.dueRow("one is enough", y::blamed, 3, BAD);
        // From the first on: of two that are alike the later one is left.
        TestHouse z = Checks.house("unit u{shared s=0;test a{s=1;}test b{s=1;}test c skip{s=0;}test d{s=s*1;}test e{check s==0;}}");
        Checks.due("the later one", z.blame(0, 4), 1);
        Checks.dueRow("the later one", z::blamed, 1, BAD);
        z.swap(0, 0, 1);
        Checks.due("in its ORDER", z.blame(0, 4), 1);
        Checks.dueRow("in its ORDER", z::blamed, 0, BAD);
        // Each one of a chain is needed as long as the one behind it is there: 14 turns, and one that leaves nothing out.
        String chain = repeated(1, 14, "test t#{if s+1==#{s=#;}else{s=99;}}");
        TestHouse v = Checks.house("unit u{shared s=0;shared k=0;" + chain + "test z{if s<99{k=1;}}test l{check k==0;}}");
        Checks.due("15 turns", v.blame(0, 15), 1);
        Checks.dueRow("15 turns", v::blamed, 14, BAD);
        // All of 15.
        StringBuilder text = new StringBuilder("unit u{shared s=0;");
        for (int n = 0; n < 15; n++) {
            text.append("test t").append(n).append("{s=s+1;}");
        }
        TestHouse w = Checks.house(text + "test l{check s<15;}}");
        Checks.due("all of 15", w.blame(0, 15), 15);
        Checks.dueRow("all of 15", w::blamed, 0, 1, 2, 3, 4, 5, 6, 7, 8, 9, 10, 11, 12, 13, 14, BAD);
    }

    // ---- 8 BUILDS

    private static void builds() {
        Checks.says("8 BUILDS (8): an old parcel with the units of a new one (perhaps the same), which stand in the place of all its units that have "
                + "a NAME of theirs; units of the old one that are left have their code as it was (also the numbers of const); what units of "
                + "the new one use is of the new one.");
        TestHouse x = Checks.house("unit a{test t{raise b.k*100+b.f()*10+c.v;}}unit b{const k=3;fun f(){return 4;}test s{}}unit c{var v=5;}",
                "unit d{var v=7;}unit b{const k=8;fun f(){return k-1+c.v-c.v+d.v-7;}}unit c{own const x=1;var v=9;}",
                "unit b{fun f(){return 2;}}", "unit e{}", "unit a{}");
        int[] due = {379, 325, 345};
        int[] fresh = {1, 2, 3};
        for (int n = 0; n < 3; n++) {
            Checks.due("BUILD", x.build(0, fresh[n]), n);
            Checks.due("touch", x.touch(n, 0), 2);
            Checks.due("told", x.told(0), due[n]);
        }
        Checks.due("a CASE of a unit that was replaced", x.touch(0, 1), NONE);
        Checks.due("a CASE of a unit that is left", x.touch(2, 1), 1);
        Checks.due("the same parcel", x.build(0, 0), 3);
        Checks.due("all were replaced", x.touch(3, 0), NONE);
        Checks.due("BUILD", x.build(0, 4), 4);
        Checks.due("replaced", x.touch(4, 0), NONE);
        Checks.due("left", x.touch(4, 1), 1);
        Checks.due("the old parcel itself is as it was", x.alone(0, 0), 2);
        Checks.due("the old parcel itself is as it was", x.told(0), 345);
    }

    /** An old use of m.x, what is there in the new m, and what the LOOK up finds. */
    private static void looks(String use, String old, String fresh, int due) {
        TestHouse x = Checks.house("unit u{test t{" + use + "}}unit m{" + old + "}", "unit m{" + fresh + "}");
        x.build(0, 0);
        Checks.due("BUILD", x.build(0, 1), 1);
        int found = 0;
        for (int i = 0; i < x.count(0, 3); i++) {
            int answer = x.foretold(1, i);
            boolean looked = x.code(0, i, 0) >= 3 && x.code(0, i, 0) <= 7;
            Checks.due(use + fresh + " foretold of " + i, answer, looked ? due : NONE);
            found += looked ? 1 : 0;
        }
        Checks.due(use + " LOOKS up", found, 1);
        Checks.due(use + fresh + " touched", x.touch(1, 0), due == 0 ? 1 : 2);
        Checks.due(use + fresh + " fails by", x.told(0), due);
    }

    private static void lookedUp() {
        Checks.says("An instruction of an old unit that uses a member of a unit that was replaced LOOKS it up: there: 10 no member has that NAME (const, "
                + "var, shared, row, fun alone count); 11 it is of another sort; 12 it is own; 13 a fun of another number of parameters: by "
                + "the first of these it fails when it is done (ahead of a START); else it is that one.");
        String[] uses = {"check m.x;", "m.x=1;", "check m.x;", "m.x=1;", "check m.x[1]==0;", "m.x[1]=1;", "check m.x();", "m.x();",
            "check m.x(1,2);"};
        String[] olds = {"var x=1;", "var x=1;", "shared x=1;", "shared x=1;", "row x[2];", "row x[2];", "fun x(){return 1;}", "fun x(){}",
            "fun x(a,b){return 1;}"};
        String[] freshs = {"", "const x=1;", "var x=1;", "shared x=1;", "row x[2];", "fun x(){return 1;}", "fun x(a){return 1;}",
            "fun x(a,b){return 1;}", "test x{}", "prop x(a){}", "var y=1;"};
        for (int n = 0; n < uses.length; n++) {
            int index = olds[n].startsWith("var") ? 2 : olds[n].startsWith("shared") ? 3 : olds[n].startsWith("row") ? 4 : 5;
            int parameters = olds[n].contains("a,b") ? 2 : 0;
            for (int k = 0; k < freshs.length; k++) {
                boolean none = k == 0 || k >= 8;
                boolean same = index == Math.min(k, 5);
                boolean many = index == 5 && parameters != k - 5;
                looks(uses[n], olds[n], freshs[k], none ? 10 : !same ? 11 : many ? 13 : 0);
                if (!none) {
                    looks(uses[n], olds[n], "own " + freshs[k], !same ? 11 : 12);
                }
            }
        }
        // A row that is longer or shorter now.
        looks("m.x[4]=1;", "row x[5];", "row x[50];", 0);
        TestHouse x = Checks.house("unit u{test t with 1,2,49,50{m.x[it]=1;}}unit m{row x[50];}", "unit m{row x[2];}", "unit m{row x[50];}");
        x.build(0, 1);
        x.build(0, 2);
        Checks.dueRow("a shorter one", c -> x.touch(0, c), 1, 2, 2, 2, BAD);
        Checks.dueRow("a long one", c -> x.touch(1, c), 1, 1, 1, 2, BAD);
    }

    private static void lookedUpAheadOfStarts() {
        // 10 .. 13 are caught, and no START has begun for them: it begins with the first use that is not one of them.
        TestHouse x = Checks.house("unit u{test t{try{m.a=1;}catch e{check e==10;}try{m.b=1;}catch e{check e==11;}try{m.c=1;}catch e"
                + "{check e==12;}try{m.d();}catch e{check e==13;}check s.n==0;check m.e==5;check s.n==1;}}"
                + "unit m{var a=1;var b=1;var c=1;fun d(){}var e=1;}unit s{shared n=0;}",
                "unit m{shared b=1;own var c=1;fun d(a){}var e=1;start{e=5;s.n=1;}}unit s{shared n=0;}",
                "unit m{var e=1;start{raise 1;}}");
        x.build(0, 1);
        x.build(0, 2);
        Checks.due("caught", x.touch(0, 0), 1);
        Checks.due("10, though a START would fail", x.touch(1, 0), 2);
        Checks.due("11 is 10 there", x.told(0), 5);
        TestHouse y = Checks.house("unit u{test t{m.a=1;}test s{check m.e;}}unit m{var a=1;var e=1;}", "unit m{var e=1;start{raise 1;}}");
        y.build(0, 1);
        Checks.due("10 ahead of a START", y.touch(0, 0), 2);
        Checks.dueRow("10 ahead of a START", y::told, 10, 1, 2, 0, BAD);
        Checks.due("a START", y.touch(0, 1), 2);
        Checks.dueRow("a START", y::told, 8, 4, 1 + 2, 0, BAD);
    }

    private static void twoSides() {
        // The second unit of the old one and the first of the new one begin each for itself.
        String caller = "unit a{var n=1;start{n=n+1;}test t{check n==2;check b.n==2;check c.n==3;check b.n==2;check n==2;check c.r[49]==0;}}"
                + "unit b{var n=1;start{n=n+1;}}unit c{var n=0;row r[50];}";
        TestHouse x = Checks.house(caller, "unit c{var n=2;row r[50];start{n=n+1;r[49]=z.s;}}unit z{shared s=0;start{s=s*2;}}",
                "unit z{shared s=1;fun up(){s=s+1;return s;}}unit c{var n=3;row r[50];}");
        x.build(0, 1);
        x.build(0, 2);
        for (int n = 0; n < 3; n++) {
            Checks.due("each for itself", x.touch(0, 0), 1);
            Checks.due("each for itself", x.touch(1, 0), 1);
            Checks.due("the old parcel alone", x.alone(0, 0), 2);
        }
        // The last units of the old one and all units of the new one.
        StringBuilder eight = new StringBuilder();
        StringBuilder seen = new StringBuilder();
        for (int n = 0; n < 8; n++) {
            eight.append("unit n").append(n).append("{var v=").append(n).append(";start{v=v+10;}}");
            seen.append("check ").append(n < 4 ? "n" : "o").append(n).append(".v==").append(n < 4 ? n + 10 : n + 20).append(";");
        }
        String left = "unit o0{test t{" + seen + "}}" + repeated(1, 3, "unit n#{var v=1;}") + "unit o4{var v=4;start{v=v+20;}}"
                + "unit o5{var v=5;start{v=v+20;}}unit o6{var v=6;start{v=v+20;}}unit o7{var v=7;start{v=v+20;}}";
        TestHouse w = Checks.house(left.replace("check n0.v==10;", ""), eight.toString());
        w.steps(1000);
        w.build(0, 1);
        Checks.due("8 and 8 units", w.touch(0, 0), 1);
        // The shared of both are as told at the beginning of each.
        TestHouse y = Checks.house("unit a{shared s=5;test t{s=s+1;check s==6;check m.up()==3;check m.up()==4;}}unit m{fun up(){}}",
                "unit m{shared s=2;fun up(){s=s+1;return s;}}");
        y.build(0, 1);
        for (int n = 0; n < 3; n++) {
            Checks.due("the shared are as told", y.touch(0, 0), 1);
        }
        // All 8 units of both, and all rows of theirs.
        StringBuilder old = new StringBuilder("unit a{test t{");
        StringBuilder fresh = new StringBuilder();
        for (int n = 1; n < 8; n++) {
            old.append("b").append(n).append(".l[49]=").append(n).append(";a").append(n % 2).append("[49]=9;");
            fresh.append("unit b").append(n).append("{").append(repeated(1, 11, "row r#[50];")).append("row l[50];start{l[0]=3;}}");
        }
        for (int n = 1; n < 8; n++) {
            old.append("check b").append(n).append(".l[49]==").append(n).append(";check b").append(n).append(".l[0]==3;");
        }
        old.append("}row a0[50];row a1[50];}");
        for (int n = 1; n < 8; n++) {
            old.append("unit b").append(n).append("{row l[50];}");
        }
        TestHouse z = Checks.house(old.toString(), fresh + "unit a8{}");
        z.steps(1000);
        z.build(0, 1);
        Checks.due("all rows have cells of their own", z.touch(0, 0), 1);
        Checks.due("an instruction of the new parcel and 1000", far().touch(0, 0), 2);
    }

    /** One that fails at the last instruction but two of a new parcel that has 1000. */
    private static TestHouse far() {
        String long200 = "(){let a=0" + "+1".repeat(98) + ";}";
        String text = repeated(1, 4, "fun f#" + long200) + "fun g(){let a=0" + "+1".repeat(97) + ";raise a;}";
        TestHouse x = Checks.house("unit u{test t{m.g();}}unit m{fun g(){}}", "unit m{" + text + "}");
        x.steps(1000);
        x.build(0, 1);
        Checks.due("how many", x.count(1, 3), 1000);
        x.touch(0, 0);
        Checks.dueRow("told", x::told, 98 - 1, 1000 + 997, 1 + 196 + 2);
        return x;
    }

    // ---- WORK

    private static void workOfKill() {
        Checks.says("WORK: kill() makes at most 40000 STEPS in all its runs, property(), luck(), blame() 20000; where one more would be, SPENT is "
                + "answered, and nothing is changed.");
        // 199 MUTANTS and the parcel as it is make 200 STEPS each; 180 and it 221 each: 40001.
        TestHouse x = Checks.house("unit u{fun f(){let a=0" + "+0".repeat(98) + ";}test t{while 1{}}}",
                "unit u{fun f(){let a=-0" + "+0".repeat(88) + ";}test t{while 1{}}}");
        Checks.due("MUTANTS", x.count(0, 6), 199);
        Checks.due("MUTANTS", x.count(1, 6), 180);
        Checks.due("40000", x.kill(0), 0);
        x.steps(201);
        Checks.due("40200", x.kill(0), SPENT);
        Checks.due("what was told stays", x.killed(0, 0, 0), 0);
        x.steps(221);
        Checks.due("40001", x.kill(1), SPENT);
        Checks.due("nothing is changed", x.killed(1, 0, 0), NONE);
        Checks.due("nothing is changed", x.mutant(1, 0, 2), NONE);
        Checks.due("nothing is changed", x.least(1, -1), NONE);
        x.steps(220);
        Checks.due("39820", x.kill(1), 0);
        Checks.due("changed", x.killed(1, 0, 0), 0);
        // What the runs of a kill() that is SPENT found is told of no MUTANT, not even of the first ones.
        TestHouse y = Checks.house("unit u{fun f(){return 1;}fun g(){let a=0" + "+0".repeat(40) + ";}test a{check f()==1;}"
                + "test t{while 1{}}}");
        Checks.due("some", y.kill(0), 2);
        y.twin(0, 0);
        y.rule(0, -1, 0, false, 1);
        y.steps(1000);
        for (int n = 0; n < 2; n++) {
            Checks.due("SPENT", y.kill(0), SPENT);
            Checks.dueRow("nothing is changed", k -> y.killed(0, k, 0), 1, 1, 0, 0, 0);
            Checks.dueRow("nothing is changed", i -> y.least(0, i - 1), 1, 0, BAD);
        }
    }

    private static void workOfProperty() {
        // 200 times 100 STEPS; 177 times 113: 20001.
        TestHouse x = Checks.house("unit u{prop p(a){" + filler(98) + "}prop q(a){" + filler(111) + "}prop r(a){check 0;}}");
        Checks.due("20000", x.property(0, 0, 200), 1);
        Checks.due("times", x.small(-2), 200);
        Checks.due("by 5", x.property(0, 2, 1), 0);
        Checks.due("20001", x.property(0, 1, 177), SPENT);
        Checks.dueRow("nothing is changed", i -> x.small(i - 2), 1, 5, 0, BAD);
        Checks.due("19888", x.property(0, 1, 176), 1);
        Checks.dueRow("changed", i -> x.small(i - 2), 176, 0, BAD);
    }

    private static void workOfSmall() {
        // Each time its code makes 1000 STEPS, whether it holds or not: 20 times may be, 21 not.
        TestHouse x = Checks.house("unit u{prop p(a,b,c,d){let i=-0;while i<109{i=i+1;}if a*b*c*d==0{return 0;}raise 5;}}");
        x.steps(1000);
        int just = 0;
        int more = 0;
        int before = BAD;
        for (int seed = 0; seed < 400; seed++) {
            int[] due = made(seed, 4, 4, n -> n[0] * n[1] * n[2] * n[3] == 0);
            if (times >= 19 && times <= 22 && just + more < 40) {
                x.seed(seed);
                Checks.due(times + " times", x.property(0, 0, 4), times > 20 ? SPENT : due == null ? 1 : 0);
                just += times == 20 ? 1 : 0;
                more += times == 21 ? 1 : 0;
                before = times > 20 ? before : times;
                Checks.due("how often", x.small(-2), before);
            }
        }
        Checks.due("20 and 21 were met", just > 0 && more > 0 ? 1 : 0, 1);
    }

    private static void workOfLuck() {
        // 200 rows of 100 STEPS; 177 of 113: 20001.
        TestHouse x = Checks.house("unit u{test a{check draw 200<200;" + filler(93) + "}test b{check draw 177<177;" + filler(106)
                + "}test c{check draw 2;}test d{check draw 176<176;" + filler(106) + "}}");
        x.alone(0, 0);
        Checks.due("STEPS", x.told(2), 100);
        x.alone(0, 1);
        Checks.due("STEPS", x.told(2), 113);
        lucky(x, 0, 200, 1, 1);
        lucky(x, 2, 2, 1, 2);
        Checks.due("20001", x.luck(0, 1), SPENT);
        Checks.dueRow("nothing is changed", x::share, 1, 2, BAD);
        lucky(x, 3, 176, 1, 1);
    }

    private static String helpers(int many, int steps, int own) {
        StringBuilder text = new StringBuilder("unit u{shared s=0;");
        for (int n = 0; n < many; n++) {
            text.append("test t").append(n).append("{s=s+1;").append(filler(steps - 6)).append("}");
        }
        return text + "test l{" + filler(own - 6) + "if s<" + many + "{return 0;}raise 1;}}";
    }

    private static void workOfBlame() {
        // All 5 are needed: 25 times such a one and 7 times itself.
        TestHouse x = Checks.house(helpers(5, 793, 25), helpers(5, 795, 18), "unit u{shared s=0;test a{s=1;}test b{check s==0;}}");
        x.steps(1000);
        for (int c = 0; c < 6; c++) {
            x.alone(0, c);
            Checks.due("STEPS", x.told(2), c < 5 ? 793 : 25);
            x.alone(1, c);
            Checks.due("STEPS", x.told(2), c < 5 ? 795 : 18);
        }
        Checks.due("20000", x.blame(0, 5), 5);
        Checks.dueRow("20000", x::blamed, 0, 1, 2, 3, 4, BAD);
        Checks.due("one", x.blame(2, 1), 1);
        Checks.due("20001", x.blame(1, 5), SPENT);
        Checks.dueRow("nothing is changed", x::blamed, 0, BAD);
    }

    private static void whatStays() {
        Checks.says("What is told of runs, kill(), least(), stays till another one of that parcel (also when SEED, STEPS, ORDER, DOUBLES are others "
                + "since).");
        TestHouse x = Checks.house("unit u{fun f(){return draw 9+1;}test a{check f()==9;}test b{raise f();}}", "unit v{fun g(){}test c{}}");
        Checks.due("run", x.run(0), 1);
        Checks.due("kill", x.kill(0) > 0 ? 1 : 0, 1);
        List<Integer> before = state(x);
        x.seed(5);
        x.steps(3);
        x.swap(0, 0, 1);
        x.twin(0, 0);
        x.rule(0, -1, 0, true, 3);
        x.run(1);
        x.kill(1);
        x.alone(0, 0);
        x.luck(0, 0);
        x.blame(0, 0);
        Checks.due("verdict", x.verdict(0, 1, 1), 9);
        x.swap(0, 0, 1);
        x.steps(200);
        x.seed(1);
        Checks.due("what is told of the parcel stays", told(x, 0).equals(before.subList(0, told(x, 0).size())) ? 1 : 0, 1);
        x.run(0);
        Checks.due("another run", x.verdict(0, 1, 1), 3);
        Checks.due("another kill", x.kill(0), 0);
        Checks.due("another least", x.least(0, -1), 0);
        refused();
    }

    /** All that is told of one parcel. */
    private static List<Integer> told(TestHouse x, int p) {
        List<Integer> all = new ArrayList<>();
        for (int what = 1; what <= 6; what++) {
            all.add(x.count(p, what));
        }
        for (int c = 0; c < x.count(p, 4); c++) {
            all.add(x.swap(p, c, c));
            for (int what = 0; what < 5; what++) {
                all.add(x.about(p, c, what));
                all.add(x.verdict(p, c, what));
            }
        }
        for (int i = 0; i < x.count(p, 3); i++) {
            for (int what = 0; what < 2; what++) {
                all.add(x.code(p, i, what));
                all.add(x.cover(p, i, what));
            }
        }
        for (int k = 0; k < x.count(p, 6); k++) {
            all.add(x.mutant(p, k, 2));
            for (int c = 0; c < x.count(p, 4); c++) {
                all.add(x.killed(p, k, c));
            }
        }
        for (int what = -1; what < 16; what++) {
            all.add(x.least(p, what));
        }
        return all;
    }

    /** All that an object tells. */
    private static List<Integer> state(TestHouse x) {
        List<Integer> all = new ArrayList<>();
        for (int p = 0; p < 8; p++) {
            all.addAll(told(x, p));
        }
        all.add(x.count(0, 0));
        all.add(x.cut(0));
        all.add(x.fault());
        int steps = x.steps(1);
        x.steps(steps);
        all.add(steps);
        int seed = x.seed(1);
        x.seed(seed);
        all.add(seed);
        for (int d = 0; d < 20; d++) {
            for (int i = -1; i < 4; i++) {
                for (int what = -1; what < 4; what++) {
                    all.add(x.calls(d, i, what));
                }
            }
        }
        for (int i = -2; i < 16; i++) {
            all.add(x.told(i));
            all.add(x.small(i));
            all.add(x.share(i));
            all.add(x.blamed(i));
        }
        for (int n = 0; n < 9; n++) {
            all.add(x.linear(n));
            for (int i = 0; i < 9; i++) {
                all.add(x.place(n, i));
                all.add(x.foretold(n, i));
            }
        }
        return all;
    }

    interface Call {
        int make(TestHouse x);
    }

    /** Refused, and all that is told is as it was. */
    private static void refused(TestHouse x, String name, int due, Call call) {
        List<Integer> before = state(x);
        Checks.due(name, call.make(x), due);
        Checks.due(name + " changes nothing", state(x).equals(before) ? 1 : 0, 1);
    }

    private static final String RICH = "unit u{shared s=0;const k=1;fun f(a){return a+draw 2;}fun g(){}test a{s=1;f(1);f(2);}test b{check s==0;"
            + "check f(1);}test c skip{}test d{check 0;}test e{while 1{}}prop p(a){check a<3;}prop q(a){while 1{}}prop r(a){check 1;while 1{}}"
            + "test h{check draw 401;}test i{let c=0;while c<31{c=c+1;if draw 2{raise 1;}}}}unit v{fun a(){}fun b(){}fun c(){}fun d(){}"
            + "fun e(){}fun f(){}fun g(){}}";

    /** An object that has 8 of all, and something to tell of each. */
    private static TestHouse rich() {
        TestHouse x = new TestHouse();
        for (int p = 0; p < 7; p++) {
            Checks.parcel(x, p == 0 ? RICH : p == 1 ? "unit u{}" : "unit v{fun f(){let a=0" + "+0".repeat(30) + ";}test t{while 1{}}}");
        }
        Checks.parcel(x, "unit u{!");
        Checks.parcel(x, "unit w{var a=1;}");
        Checks.feed(x, "unit z{}");
        for (int n = 0; n < 8; n++) {
            x.twin(0, n == 0 ? 2 : n + 3);
            x.history(n % 3);
            x.build(0, n);
        }
        for (int n = 0; n < 8; n++) {
            x.rule(0, 0, 1, false, 1);
            x.op(0, 1, 0, 0, n, n);
            x.op(3, 1, 0, n % 2, n, n);
        }
        x.run(0);
        x.kill(0);
        x.kill(2);
        x.property(0, 0, 200);
        x.luck(0, 1);
        x.blame(0, 1);
        x.alone(0, 1);
        x.steps(1000);
        return x;
    }

    private static void refused() {
        Checks.says("Of several refusals the first one told; BAD stands ahead of all. What is refused changes nothing.");
        TestHouse x = rich();
        Checks.due("parcels", x.count(0, 0), 8);
        Checks.due("blamed", x.blamed(0), 0);
        refused(x, "cut", BAD, y -> y.cut(21));
        refused(x, "cut", BAD, y -> y.cut(-1));
        refused(x, "parcel", FULL, TestHouse::parcel);
        refused(x, "steps", BAD, y -> y.steps(0));
        refused(x, "steps", BAD, y -> y.steps(1001));
        refused(x, "swap", BAD, y -> y.swap(0, 0, 7));
        refused(x, "swap", BAD, y -> y.swap(0, 7, 0));
        refused(x, "swap", BAD, y -> y.swap(8, 0, 1));
        refused(x, "run", BAD, y -> y.run(8));
        refused(x, "run", BAD, y -> y.run(-1));
        refused(x, "alone", BAD, y -> y.alone(0, 7));
        refused(x, "alone", BAD, y -> y.alone(8, 0));
        refused(x, "twin", BAD, y -> y.twin(0, 1));
        refused(x, "twin", NONE, y -> y.twin(0, 2));
        refused(x, "twin", FULL, y -> y.twin(0, 3));
        refused(x, "rule", BAD, y -> y.rule(8, 0, 0, false, 0));
        refused(x, "rule", BAD, y -> y.rule(0, 1, 0, false, 0));
        refused(x, "rule", BAD, y -> y.rule(0, -2, 0, false, 0));
        refused(x, "rule", FULL, y -> y.rule(0, 0, 0, false, 0));
        refused(x, "drop", BAD, y -> y.drop(8));
        refused(x, "drop", BAD, y -> y.drop(-1));
        refused(x, "kill", BAD, y -> y.kill(8));
        refused(x, "kill", SPENT, y -> y.kill(2));
        refused(x, "property", BAD, y -> y.property(0, 3, 1));
        refused(x, "property", BAD, y -> y.property(0, 0, 0));
        refused(x, "property", BAD, y -> y.property(0, 0, 201));
        refused(x, "history", BAD, y -> y.history(3));
        refused(x, "history", FULL, y -> y.history(2));
        refused(x, "op", BAD, y -> y.op(0, 2, 0, 0, 0, 0));
        refused(x, "op", BAD, y -> y.op(1, 0, 0, 0, 1, 0));
        refused(x, "op", BAD, y -> y.op(1, 0, 0, 0, 0, 1001));
        refused(x, "op", BAD, y -> y.op(8, 0, 0, 0, 0, 0));
        refused(x, "op", FULL, y -> y.op(0, 0, 0, 0, 0, 0));
        refused(x, "luck", BAD, y -> y.luck(0, 7));
        refused(x, "luck", SPENT, y -> y.luck(0, 5));
        refused(x, "luck", FINE, y -> y.luck(0, 6));
        refused(x, "blame", BAD, y -> y.blame(0, 7));
        refused(x, "blame", NONE, y -> y.blame(0, 0));
        refused(x, "blame", NONE, y -> y.blame(0, 2));
        refused(x, "blame", NONE, y -> y.blame(0, 3));
        refused(x, "build", BAD, y -> y.build(8, 0));
        refused(x, "build", BAD, y -> y.build(0, -1));
        refused(x, "build", FULL, y -> y.build(0, 0));
        refused(x, "touch", BAD, y -> y.touch(0, 7));
        refused(x, "touch", BAD, y -> y.touch(8, 0));
        refused(x, "touch", NONE, y -> y.touch(0, 0));
        Checks.due("dropped: 8 RULES, none came", x.drop(0), 8);
        Checks.due("numbers go on", x.twin(0, 3), 8);
        spentStays();
        while (x.feed(0, 0, 0, 0, 0) != FULL) {
            Checks.due("not FULL", x.cut(0) <= 3000 ? 1 : 0, 1);
        }
        refused(x, "feed", FULL, y -> y.feed(1, 2, 3, 4, 5));
    }

    private static void spentStays() {
        TestHouse x = Checks.house("unit u{prop p(a){check a<3;}prop q(a){" + filler(150) + "}shared s=0;" + repeated(1, 15, "test t#{s=s+1;"
                + filler(150) + "}") + "test l{check s<15;}}");
        x.steps(1000);
        Checks.due("property", x.property(0, 0, 200), 0);
        refused(x, "property", SPENT, y -> y.property(0, 1, 200));
        Checks.due("what is small stays", x.small(0), 3);
        refused(x, "blame", SPENT, y -> y.blame(0, 15));
    }

    // ---- the promises 23 to 40

    private static final String SOME = "unit u{fun f(a){return a+1;}test a{check f(1)==2;}test b{f(0);}}";

    private static void promise23() {
        Checks.says("Of MUTANT k: 0 its instruction, 1 the operation instead, 2 how many CASES killed it by the latest kill() (NONE without). BAD.");
        TestHouse x = Checks.house(SOME, "unit u{}");
        Checks.dueRow("without", what -> x.mutant(0, 0, what), 1, 0, NONE, BAD);
        x.kill(0);
        Checks.dueRow("first", what -> x.mutant(0, 0, what), 1, 0, 1, BAD);
        Checks.dueRow("ADD", what -> x.mutant(0, 1, what), 2, 11, 1, BAD);
        Checks.dueRow("RETURN", what -> x.mutant(0, 2, what), 3, 34, 1, BAD);
        Checks.dueRow("last", what -> x.mutant(0, 4, what), 5, 34, 0, BAD);
        Checks.due("k", x.mutant(0, 5, 0), BAD);
        Checks.due("none", x.mutant(1, 0, 0), BAD);
        Checks.due("p", x.mutant(2, 0, 0), BAD);
        for (int far : FAR) {
            Checks.due("p", x.mutant(far, 0, 0), BAD);
            Checks.due("k", x.mutant(0, far, 0), BAD);
            Checks.due("what", x.mutant(0, 0, far), BAD);
        }
    }

    private static void promise24() {
        Checks.says("All MUTANTS are run, and the parcel as it is: how many are KILLED. BAD; SPENT.");
        TestHouse x = Checks.house(SOME, "unit u{}", "unit u{fun f(){}}", "unit u{test a{}}");
        Checks.due("some", x.kill(0), 3);
        for (int p = 1; p < 4; p++) {
            Checks.due("none", x.kill(p), 0);
        }
        Checks.due("p", x.kill(4), BAD);
        for (int far : FAR) {
            Checks.due("p", x.kill(far), BAD);
        }
    }

    private static void promise25() {
        Checks.says("Whether CASE c killed MUTANT k by the latest kill(): 1, 0. BAD; NONE.");
        TestHouse x = Checks.house(SOME);
        Checks.due("NONE", x.killed(0, 4, 1), NONE);
        Checks.due("BAD ahead", x.killed(0, 5, 0), BAD);
        Checks.due("BAD ahead", x.killed(0, 0, 2), BAD);
        x.kill(0);
        for (int c = 0; c < 2; c++) {
            int at = c;
            Checks.dueRow("CASE " + c, k -> x.killed(0, k, at), at == 0 ? new long[] {1, 1, 1, 0, 0, BAD} : new long[] {0, 0, 0, 0, 0, BAD});
        }
        Checks.due("c", x.killed(0, 0, 2), BAD);
        Checks.due("p", x.killed(1, 0, 0), BAD);
        for (int far : FAR) {
            Checks.due("p", x.killed(far, 0, 0), BAD);
            Checks.due("k", x.killed(0, far, 0), BAD);
            Checks.due("c", x.killed(0, 0, far), BAD);
        }
    }

    private static void promise26() {
        Checks.says("The LEAST SUITE by the latest kill(): how many (what = -1); its CASE what, from 0. BAD: also what below -1, or not so many; NONE: "
                + "no kill() (then not so many does not count).");
        TestHouse x = Checks.house(SOME, "unit u{}");
        for (int what : new int[] {-1, 0, 1, 99, GREATEST}) {
            Checks.due("no kill()", x.least(0, what), NONE);
        }
        for (int what : new int[] {-2, -3, LEAST}) {
            Checks.due("BAD ahead", x.least(0, what), BAD);
        }
        x.kill(0);
        Checks.dueRow("by the latest", what -> x.least(0, what - 2), BAD, 1, 0, BAD, BAD);
        Checks.due("far", x.least(0, GREATEST), BAD);
        Checks.due("far", x.least(0, LEAST), BAD);
        Checks.due("of the other one", x.least(1, -1), NONE);
        x.kill(1);
        Checks.dueRow("none", what -> x.least(1, what - 1), 0, BAD);
        for (int far : FAR) {
            Checks.due("p", x.least(far, -1), BAD);
        }
        Checks.due("p", x.least(2, 0), BAD);
        x.steps(1);
        x.kill(0);
        Checks.dueRow("by the latest", what -> x.least(0, what - 1), 0, BAD);
    }

    private static void promise27() {
        Checks.says("Prop k is tried n times (1 .. 200): 1 it held, 0 not: what is small is told. BAD; SPENT.");
        TestHouse x = Checks.house("unit u{prop p(a){}prop q(a){check a;}}", "unit v{}");
        Checks.due("once", x.property(0, 0, 1), 1);
        Checks.due("times", x.small(-2), 1);
        Checks.due("200 times", x.property(0, 0, 200), 1);
        Checks.due("times", x.small(-2), 200);
        Checks.due("not", x.property(0, 1, 1), 0);
        for (int n : new int[] {0, 201, -1, LEAST, GREATEST}) {
            Checks.due("n", x.property(0, 0, n), BAD);
        }
        Checks.due("k", x.property(0, 2, 1), BAD);
        Checks.due("none", x.property(1, 0, 1), BAD);
        Checks.due("p", x.property(2, 0, 1), BAD);
        for (int far : FAR) {
            Checks.due("p", x.property(far, 0, 1), BAD);
            Checks.due("k", x.property(0, far, 1), BAD);
        }
        Checks.due("BAD changes nothing", x.small(0), 0);
    }

    private static void promise28() {
        Checks.says("Of the latest property() that was 0 or 1: number what of those that are small (0 ..), for what = -1 by what it failed then (0, if it "
                + "held), -2 how many times its code was done in all. BAD: also without one, or none such (0 .. of one that held).");
        TestHouse x = Checks.house("unit u{prop p(a,b,c,d){raise 7;}prop q(a){check a<1;}prop r(a){}prop s(a){raise -2;}prop t(a,b){check b<1;}}");
        for (int what = -3; what < 5; what++) {
            Checks.due("without one", x.small(what), BAD);
        }
        Checks.due("4 numbers", x.property(0, 0, 1), 0);
        Checks.dueRow("4 numbers", i -> x.small(i - 3), BAD, 1, 7, 0, 0, 0, 0, BAD);
        Checks.due("held", x.property(0, 2, 3), 1);
        Checks.dueRow("held", i -> x.small(i - 3), BAD, 3, 0, BAD, BAD);
        Checks.due("by any number", x.property(0, 3, 3), 0);
        Checks.dueRow("by any number", i -> x.small(i - 3), BAD, 1, -2, 0, BAD);
        // One of two numbers ahead leaves nothing to make small in one of one number.
        for (int seed = 0; seed < 20; seed++) {
            x.seed(seed);
            int[] two = made(seed, 20, 2, n -> n[1] < 1);
            int timesOfTwo = times;
            Checks.due("two", x.property(0, 4, 20), two == null ? 1 : 0);
            Checks.due("two, times", x.small(-2), timesOfTwo);
            int[] one = made(seed, 20, 1, n -> n[0] < 1);
            Checks.due("one", x.property(0, 1, 20), one == null ? 1 : 0);
            Checks.dueRow("one", i -> x.small(i - 2), times, one == null ? 0 : 5, one == null ? BAD : one[0], BAD);
        }
        for (int far : new int[] {LEAST, -3, 4, 99, GREATEST}) {
            Checks.due("what", x.small(far), BAD);
        }
    }

    private static void promise29() {
        Checks.says("The i-th number SMALLER than v, from 0; NONE (which a number may be, too).");
        TestHouse x = new TestHouse();
        Checks.dueRow("0", i -> x.smaller(0, i), NONE, NONE);
        Checks.dueRow("1", i -> x.smaller(1, i), 0, NONE, NONE);
        Checks.dueRow("-1", i -> x.smaller(-1, i), 0, 1, NONE, NONE);
        Checks.dueRow("-3: a number that is NONE", i -> x.smaller(-3, i), 0, 3, -2, NONE);
        Checks.dueRow("-4: a number that is NONE", i -> x.smaller(-4, i), 0, 4, -2, -3, NONE);
        for (int v : new int[] {0, 1, -1, 100, LEAST, GREATEST}) {
            for (int i : new int[] {-1, LEAST, 34, 99, GREATEST}) {
                Checks.due("i", x.smaller(v, i), NONE);
            }
        }
    }

    private static void promise30() {
        Checks.says("A HISTORY: its number. BAD: kind; FULL.");
        TestHouse x = new TestHouse();
        for (int n = 0; n < 8; n++) {
            for (int kind : new int[] {-1, 3, LEAST, GREATEST}) {
                Checks.due("kind", x.history(kind), BAD);
            }
            Checks.due("number", x.history(2 - n % 3), n);
        }
        Checks.due("FULL", x.history(0), FULL);
        Checks.due("BAD ahead", x.history(3), BAD);
        Checks.due("BAD ahead", x.history(-1), BAD);
        Checks.due("the 8th", x.linear(7), 1);
        Checks.due("no 9th", x.linear(8), BAD);
    }

    private static void promise31() {
        Checks.says("An OP, with any number as its answer: how many it has. BAD: also what is not 0, 1, from or to not 0 .. 1000, from above to; FULL.");
        TestHouse x = new TestHouse();
        Checks.due("no HISTORY", x.op(0, 0, 0, 0, 0, 0), BAD);
        x.history(0);
        int[][] bad = {{2, 0, 0}, {-1, 0, 0}, {LEAST, 0, 0}, {GREATEST, 0, 0}, {0, -1, 0}, {0, -1, -1}, {0, LEAST, 0}, {0, 0, -1},
            {0, 0, 1001}, {0, 1001, 1001}, {0, 0, GREATEST}, {0, GREATEST, GREATEST}, {0, 1, 0}, {0, 1000, 999}, {0, 5, 4}, {1, LEAST, GREATEST}};
        int[][] good = {{0, 0, 0}, {1, 1000, 1000}, {0, 0, 1000}, {1, 5, 5}, {0, 4, 5}, {1, 999, 1000}, {0, 0, 1}, {1, 7, 7}};
        for (int n = 0; n < 8; n++) {
            for (int[] b : bad) {
                Checks.due("BAD", x.op(0, b[0], 1, 1, b[1], b[2]), BAD);
            }
            int[] g = good[n];
            Checks.due("how many", x.op(0, g[0], n % 2 == 0 ? LEAST : GREATEST, n % 2 == 0 ? GREATEST : LEAST, g[1], g[2]), n + 1);
        }
        Checks.due("FULL", x.op(0, 0, 0, 0, 0, 0), FULL);
        for (int[] b : bad) {
            Checks.due("BAD ahead of FULL", x.op(0, b[0], 1, 1, b[1], b[2]), BAD);
        }
        for (int far : FAR) {
            Checks.due("h", x.op(far, 0, 0, 0, 0, 0), BAD);
        }
        Checks.due("h", x.op(1, 0, 0, 0, 0, 0), BAD);
    }

    private static void promise32() {
        Checks.says("Whether it is LINEAR: 1, 0. BAD.");
        TestHouse x = new TestHouse();
        Checks.due("none", x.linear(0), BAD);
        int h = history(x, 1, does(1, 0, 0, 0, 0));
        Checks.due("1", x.linear(h), 1);
        x.op(h, 1, 0, 3, 0, 9);
        Checks.due("0 with one OP more", x.linear(h), 0);
        x.op(h, 0, 3, 3, 0, 9);
        Checks.due("1 with one OP more", x.linear(h), 1);
        for (int far : FAR) {
            Checks.due("h", x.linear(far), BAD);
        }
        Checks.due("h", x.linear(1), BAD);
    }

    private static void promise33() {
        Checks.says("The OP at place i of THE ROW. BAD: also no such place; NONE: it is not LINEAR.");
        TestHouse x = new TestHouse();
        int empty = history(x, 0);
        Checks.due("no place", x.place(empty, 0), BAD);
        int h = history(x, 0, does(1, 0, 7, 0, 9), does(0, 7, 0, 0, 9));
        Checks.dueRow("the row", i -> x.place(h, i), 1, 0, BAD);
        x.op(h, 1, 0, 8, 0, 9);
        Checks.dueRow("not LINEAR", i -> x.place(h, i), NONE, NONE, NONE, BAD);
        x.op(h, 0, 8, 0, 0, 9);
        Checks.dueRow("LINEAR again", i -> x.place(h, i), 1, 0, 3, 2, BAD);
        for (int far : FAR) {
            Checks.due("h", x.place(far, 0), BAD);
            Checks.due("i", x.place(h, far), BAD);
            Checks.due("i, not LINEAR", x.place(history(new TestHouse(), 0), far), BAD);
        }
        Checks.due("h", x.place(2, 0), BAD);
    }

    private static String falls(int many) {
        return "let c=0;while c<" + many + "{c=c+1;if draw 2{raise 1;}}";
    }

    private static void promise34() {
        Checks.says("LUCK of a CASE: how many rows of DRAWS there are (400 at most are looked at: SPENT). BAD; SPENT (all rows are looked at ahead of "
                + "FINE); FINE: the share of a row that PASSED, or the sum of these so far, rows going by their numbers, the first DRAW first, "
                + "has below the line, in lowest terms, more than 1000000000.");
        String nine = "check not draw 10;".repeat(8);
        TestHouse x = Checks.house("unit u{test a{check draw 400<400;}test b{check draw 401<401;}test c{check draw 20+draw 20<38;}"
                + "test d{" + falls(29) + "}test e{" + falls(30) + "}"
                // The first row is FINE, and there are more than 400.
                + "test f{let c=0;while c<31{c=c+1;if draw 2{check draw 50;raise 1;}}}"
                + "test g{" + nine + "check not draw 10;}test h{" + nine + "let d=draw 10;if d==0{check not draw 3;return 0;}raise 1;}"
                + "test i{check draw 999999999*0;}test j{check not draw 400;}test k{let e=draw 2;let f=draw 2;check e and f;}"
                + "test l{check draw 2 and draw 200 or 1;}}", "unit v{}");
        x.steps(1000);
        lucky(x, 0, 400, 1, 1);
        Checks.due("401", x.luck(0, 1), SPENT);
        Checks.dueRow("stays", x::share, 1, 1, BAD);
        lucky(x, 2, 400, 399, 400);
        lucky(x, 3, 30, 1, 1 << 29);
        Checks.due("2 to the 30th", x.luck(0, 4), FINE);
        Checks.dueRow("stays", x::share, 1, 1 << 29, BAD);
        Checks.due("SPENT ahead of FINE", x.luck(0, 5), SPENT);
        lucky(x, 6, 82, 1, 1000000000);
        Checks.due("3000000000", x.luck(0, 7), FINE);
        Checks.due("many", x.luck(0, 8), SPENT);
        Checks.dueRow("stays", x::share, 1, 1000000000, BAD);
        lucky(x, 9, 400, 1, 400);
        lucky(x, 10, 4, 1, 4);
        lucky(x, 11, 400, 1, 1);
        Checks.due("c", x.luck(0, 12), BAD);
        Checks.due("none", x.luck(1, 0), BAD);
        Checks.due("p", x.luck(2, 0), BAD);
        for (int far : FAR) {
            Checks.due("p", x.luck(far, 0), BAD);
            Checks.due("c", x.luck(0, far), BAD);
        }
    }

    private static void promise35() {
        Checks.says("The share by the latest luck() that was told: above (what = 0), below the line (1), in lowest terms (0 / 1). BAD: also without one.");
        TestHouse x = Checks.house("unit u{test a{check draw 6<4;}test b{check 0;}test c{check draw 500;}test d skip{}test e{" + falls(31) + "}}");
        x.steps(1000);
        Checks.due("SPENT", x.luck(0, 2), SPENT);
        Checks.due("FINE", x.luck(0, 4), FINE);
        Checks.dueRow("without one", x::share, BAD, BAD, BAD);
        lucky(x, 0, 6, 2, 3);
        lucky(x, 1, 1, 0, 1);
        lucky(x, 0, 6, 2, 3);
        Checks.due("SPENT", x.luck(0, 2), SPENT);
        Checks.due("FINE", x.luck(0, 4), FINE);
        Checks.due("BAD", x.luck(0, 5), BAD);
        Checks.dueRow("stays", x::share, 2, 3, BAD);
        lucky(x, 3, 1, 0, 1);
        for (int far : FAR) {
            Checks.due("what", x.share(far), BAD);
        }
        Checks.due("what", x.share(2), BAD);
    }

    private static void promise36() {
        Checks.says("BLAME of a CASE: how many are left. BAD; NONE: it is SKIPPED; PASSED behind those ahead of it in ORDER; is not PASSED ALONE (asked in "
                + "this order); SPENT (as soon as it is so).");
        TestHouse x = Checks.house("unit u{shared s=0;test a{s=1;}test b{check s==0;}test c skip{check 0;}test d{check 0;}test e{check s;}"
                + "test f raises 5{check s==1;}test g raises 5{check s!=1;}before{check s<5;}test h{s=5;}test i{}}", "unit v{}");
        Checks.due("the first one", x.blame(0, 0), NONE);
        Checks.due("spoilt", x.blame(0, 1), 1);
        Checks.dueRow("spoilt", x::blamed, 0, BAD);
        Checks.due("SKIPPED", x.blame(0, 2), NONE);
        Checks.due("not PASSED ALONE", x.blame(0, 3), NONE);
        Checks.due("PASSED behind those, not ALONE", x.blame(0, 4), NONE);
        // ALONE it fails by 5, as it has to; behind a it does not.
        Checks.due("raises", x.blame(0, 5), 1);
        Checks.dueRow("raises", x::blamed, 0, BAD);
        Checks.due("not PASSED ALONE", x.blame(0, 6), NONE);
        Checks.due("by its before", x.blame(0, 8), 1);
        Checks.dueRow("BROKEN is not PASSED", x::blamed, 7, BAD);
        x.swap(0, 0, 1);
        Checks.due("none ahead", x.blame(0, 1), NONE);
        Checks.due("c", x.blame(0, 9), BAD);
        Checks.due("none", x.blame(1, 0), BAD);
        Checks.due("p", x.blame(2, 0), BAD);
        for (int far : FAR) {
            Checks.due("p", x.blame(far, 0), BAD);
            Checks.due("c", x.blame(0, far), BAD);
        }
        Checks.dueRow("stays", x::blamed, 7, BAD);
    }

    private static void promise37() {
        Checks.says("The CASE at place i of the latest blame() that was told. BAD.");
        TestHouse x = Checks.house("unit u{shared s=0;test a{s=s+1;}test b{s=s+1;}test c{check s<2;}test d{check s<1;}}");
        for (int i = -1; i < 3; i++) {
            Checks.due("without one", x.blamed(i), BAD);
        }
        Checks.due("NONE", x.blame(0, 0), NONE);
        Checks.due("still without one", x.blamed(0), BAD);
        Checks.due("two", x.blame(0, 2), 2);
        Checks.dueRow("two", x::blamed, 0, 1, BAD);
        Checks.due("one", x.blame(0, 3), 1);
        Checks.dueRow("one", x::blamed, 1, BAD, BAD);
        x.blame(0, 0);
        x.blame(0, 9);
        Checks.dueRow("stays", x::blamed, 1, BAD);
        for (int far : FAR) {
            Checks.due("i", x.blamed(far), BAD);
        }
    }

    private static void promise38() {
        Checks.says("A BUILD of an old and a new parcel: its number. BAD; FULL.");
        TestHouse x = Checks.house("unit u{}", "unit v{}");
        for (int n = 0; n < 8; n++) {
            for (int far : new int[] {-1, 2, LEAST, GREATEST}) {
                Checks.due("old", x.build(far, 0), BAD);
                Checks.due("new", x.build(0, far), BAD);
            }
            Checks.due("number", x.build(n % 2, n / 2 % 2), n);
        }
        Checks.due("FULL", x.build(0, 1), FULL);
        Checks.due("BAD ahead", x.build(2, 1), BAD);
        Checks.due("BAD ahead", x.build(0, -1), BAD);
    }

    private static void promise39() {
        Checks.says("What instruction i of the old parcel would fail by: 10 .. 13, or 0. BAD; NONE: it LOOKS nothing up (in a unit that was replaced, too).");
        // The first instruction of each unit is one that LOOKS up, or would; the first unit is replaced.
        TestHouse x = Checks.house("unit a{var n=1;start{b.m();}fun f(){}}unit b{fun m(){a.n=1;return a.f();}start{a.f();b.m();}}unit c{start{b.m();a.f();}}",
                "unit a{var n=1;fun f(a){}}", "unit b{own fun m(){}}", "unit d{}");
        for (int n = 1; n <= 3; n++) {
            x.build(0, n);
        }
        Checks.due("b", x.member(0, 2, 4), 6);
        Checks.dueRow("a is replaced", i -> x.foretold(0, i), NONE, NONE, NONE, NONE, NONE, NONE, NONE, 0, 13, NONE, NONE, NONE, 13, NONE, NONE,
                NONE, NONE, NONE, NONE, NONE, 13, NONE, NONE, NONE, BAD);
        Checks.dueRow("b is replaced", i -> x.foretold(1, i), 12, NONE, NONE, NONE, NONE, NONE, NONE, NONE, NONE, NONE, NONE, NONE, NONE, NONE, NONE,
                NONE, NONE, NONE, 12, NONE, NONE, NONE, NONE, NONE, BAD);
        for (int i = 0; i < 24; i++) {
            Checks.due("none is replaced", x.foretold(2, i), NONE);
        }
        Checks.due("b", x.foretold(3, 0), BAD);
        for (int far : FAR) {
            Checks.due("b", x.foretold(far, 0), BAD);
            Checks.due("i", x.foretold(0, far), BAD);
        }
        Checks.due("i", x.foretold(0, 24), BAD);
        // LOAD, STORE, PUSH and jumps have numbers that are no members.
        TestHouse z = Checks.house("unit a{var n=1;var m=1;row r[2];fun f(){}}unit b{fun g(c,d){let e=c;let h=d;c=e;while 1{h=2;}try{d=3;}"
                + "catch k{}return draw 0;}}", "unit a{}");
        z.build(0, 1);
        for (int i = 0; i < z.count(0, 3); i++) {
            Checks.due("no member " + i, z.foretold(0, i), NONE);
        }
        // The first instruction of the second unit, the first one being replaced, and the other way round.
        TestHouse y = Checks.house("unit a{var n=1;start{n=b.n;}}unit b{var n=1;start{n=a.n;}fun g(){return a.n;}}", "unit a{}", "unit b{}");
        y.build(0, 1);
        y.build(0, 2);
        Checks.dueRow("a is replaced", i -> y.foretold(0, i), NONE, NONE, NONE, NONE, 10, NONE, NONE, NONE, 10, NONE, NONE, NONE, BAD);
        Checks.dueRow("b is replaced", i -> y.foretold(1, i), 10, NONE, NONE, NONE, NONE, NONE, NONE, NONE, NONE, NONE, NONE, NONE, BAD);
    }

    private static void promise40() {
        Checks.says("CASE c of the old parcel, ALONE in the BUILD: its VERDICT. BAD; NONE: its unit was replaced.");
        TestHouse x = Checks.house("unit a{test t{}test s skip{}test r{check 0;}test q{m.f();}test p raises 10{m.g();}after{check 1;}}unit m{fun f(){}"
                + "fun g(){}test o{}}", "unit m{fun f(){raise 9;}test n{}}", "unit a{test n{}}");
        x.build(0, 1);
        x.build(0, 2);
        Checks.dueRow("VERDICT", c -> x.touch(0, c), 1, 5, 2, 2, 1, NONE, BAD);
        x.touch(0, 1);
        Checks.dueRow("SKIPPED", x::told, 0, NONE, 0, 0, BAD);
        x.touch(0, 3);
        Checks.dueRow("in the new one", x::told, 9, 1001, 3 + 4, 0, BAD);
        Checks.due("NONE", x.touch(0, 5), NONE);
        Checks.dueRow("stays", x::told, 9, 1001, 3 + 4, 0, BAD);
        Checks.dueRow("a is replaced", c -> x.touch(1, c), NONE, NONE, NONE, NONE, NONE, 1, BAD);
        Checks.due("b", x.touch(2, 0), BAD);
        for (int far : FAR) {
            Checks.due("b", x.touch(far, 0), BAD);
            Checks.due("c", x.touch(0, far), BAD);
        }
    }
}
