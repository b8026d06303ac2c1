import java.util.ArrayList;
import java.util.Arrays;

/** A house of tests: parcels of units with their tests are read, run, altered, tried and blamed. */
public final class TestHouse {
    public static final int BAD = -1, NONE = -2, FULL = -3, SPENT = -4, FINE = -5;

    private static final int TAPE = 3000, PARCELS = 8, UNITS = 8, MEMBERS = 12, CASES = 16, PROPS = 6;
    private static final int PARAMETERS = 4, LOCALS = 10, NESTED = 20, WITHS = 4, WINGS = 3, ROW_SIZE = 50;
    private static final int LONGEST_NAME = 8, LONGEST_NUMBER = 9, LARGEST_NUMBER = 999999999;
    private static final int CODE = 200, ALL_CODES = 1000;
    // A byte of the tape makes one instruction at most, but for the end of a code.
    private static final int DRAFT = 4096;
    // Between two NAMES of a tape stands a byte at least.
    private static final int USES = TAPE / 2;

    private static final int OPEN_CODES = 12, OPERANDS = CODE + LOCALS;
    private static final int CELLS = UNITS * MEMBERS * ROW_SIZE;
    // Far above the turns of one code: its STEPS, and one for each START that was waited for.
    private static final int TURNS = 1000000;

    private static final int TWINS = 8, RULES = 8, KEPT_CALLS = 50;
    private static final int BUILDS = 8, HISTORIES = 8, OPS = 8, LATEST = 1000;
    private static final int KILL_WORK = 40000, WORK = 20000, NO_LIMIT = 2147483647;
    private static final int MOST_STEPS = 1000, MOST_TRIES = 200, WIDEST = 60, MOST_ROWS = 400;
    private static final long FINEST = 1000000000L;
    private static final int FACTOR = 1103515245, ADDEND = 12345;

    // The kinds of tokens; a sign of one byte is its own kind.
    private static final int END = 0, NO_TOKEN = 1, STOPPED = 2, NAME = 3, NUMBER = 4;
    private static final int LESS_SAME = 128, SAME = 129, OTHER = 130;
    private static final String SIGNS = "{}()[],;.=+-*/%<";
    private static final int WORD_UNIT = 200, WORD_OWN = 201, WORD_CONST = 202, WORD_VAR = 203, WORD_SHARED = 204,
            WORD_ROW = 205, WORD_START = 206, WORD_FUN = 207, WORD_BEFORE = 208, WORD_AFTER = 209, WORD_TEST = 210,
            WORD_SKIP = 211, WORD_RAISES = 212, WORD_WITH = 213, WORD_PROP = 214, WORD_LET = 215, WORD_IF = 216,
            WORD_ELSE = 217, WORD_WHILE = 218, WORD_RETURN = 219, WORD_CHECK = 220, WORD_RAISE = 221, WORD_TRY = 222,
            WORD_CATCH = 223, WORD_DRAW = 224, WORD_AND = 225, WORD_OR = 226, WORD_NOT = 227;
    private static final int WORDS = 28;
    private static final String WORD_LIST = "unit own const var shared row start fun before after test skip raises with prop let if else while return check raise try catch draw and or not ";
    private static final long IT = 'i' << 8 | 't';

    private static final int FAULT_TOKEN = 1, FAULT_PLACE = 2, FAULT_TWICE = 3, FAULT_MEANING = 4, FAULT_NUMBER = 5,
            FAULT_MANY = 6;

    // How tightly the parts of an EXPR bind, the loosest first.
    private static final int LEVEL_OR = 0, LEVEL_AND = 1, LEVEL_NOT = 2, LEVEL_TEST = 3, LEVEL_SUM = 4,
            LEVEL_PRODUCT = 5;

    private static final int SORT_CONST = 0, SORT_VAR = 1, SORT_SHARED = 2, SORT_ROW = 3, SORT_FUN = 4, SORT_CASE = 5,
            SORT_PROP = 6;

    // What a NAME of a BLOCK is used for, and what is kept of each use.
    private static final int FOR_LOCAL = 0, FOR_VALUE = 1, FOR_GIVEN = 2, FOR_ROW = 3, FOR_CALL = 4;
    private static final int USE_FOR = 0, USE_CODE = 1, USE_ARGUMENTS = 2, USE_UNIT = 3, USE_UNIT_PLACE = 4,
            USE_PLACE = 5, USE_FIELDS = 6;
    private static final int UNIT_TEXT = 0, MEMBER_TEXT = 1;

    private static final int PUSH = 0, LOAD = 1, STORE = 2, GET = 3, PUT = 4, ROWGET = 5, ROWPUT = 6, CALL = 7,
            RETURN = 8, POP = 9, ADD = 10, SUB = 11, MUL = 12, DIV = 13, MOD = 14, LT = 15, LE = 16, EQ = 17, NE = 18,
            AND = 19, OR = 20, NOT = 21, NEG = 22, DRAW = 23, JUMPZ = 24, JUMP = 25, TRY = 26, ENDTRY = 27, CHECK = 28,
            RAISE = 29, KEEP = 30, JUMPN = 31, GONE = 32, POP2 = 33, ZERO = 34;
    // The operation that a MUTANT has instead of each operation, NONE where there is no MUTANT.
    private static final int[] INSTEAD = {
        PUSH, NONE, NONE, NONE, POP, NONE, POP2, GONE, ZERO, NONE, SUB, ADD, DIV, MUL, MUL, LE, LT, NE, EQ, OR, AND,
        KEEP, KEEP, NONE, JUMPN, NONE, NONE, NONE, POP, POP
    };

    private static final int BY_ZERO = 1, BY_INDEX = 2, BY_DRAW = 3, BY_NOTHING = 4, BY_CHECK = 5, BY_STEPS = 6,
            BY_DEPTH = 7, BY_START = 8, BY_LOST_UNIT = 9, BY_NAME = 10, BY_SORT = 11, BY_OWN = 12, BY_PARAMETERS = 13;
    private static final int PASSED = 1, FAILED = 2, BROKEN = 3, BADLY_ENDED = 4, SKIPPED = 5;

    // How a code is failing: not; so that TRY catches it; so that none does; so that the CASE is over.
    private static final int SOUND = 0, CAUGHT = 1, UNCAUGHT = 2, OVER = 3;
    private static final int NOT_BEGUN = 0, BEGUN = 1, LOST = 2;
    // What is noted of a run: nothing; the CALLS of DOUBLES; these, and which instructions are begun.
    private static final int WATCH_NOTHING = 0, WATCH_CALLS = 1, WATCH_ALL = 2;
    private static final int FRAME_AT = 0, FRAME_BASE = 1, FRAME_SIDE = 2, FRAME_STARTS = 3, FRAME_FIELDS = 4;
    // What WHERE has more for an instruction of the new parcel of a BUILD.
    private static final int NEW_SIDE = 1000;

    private static final int RULE_ARGUMENT = 0, RULE_NUMBER = 1, RULE_FAILS = 2, RULE_ANSWER = 3, RULE_FIELDS = 4;
    private static final int RESULT_VERDICT = 0, RESULT_FAILURE = 1, RESULT_WHERE = 2, RESULT_STEPS = 3,
            RESULT_FIELDS = 4;
    private static final int COVER_TIMES = 0, COVER_CASES = 1, COVER_LATEST = 2, COVER_FIELDS = 3;
    private static final int TRIED_FAILURE = PARAMETERS, TRIED_TIMES = PARAMETERS + 1, TRIED_FIELDS = PARAMETERS + 2;

    private static final int REGISTER = 0, COUNTER = 1, QUEUE = 2;
    private static final int OP_WHAT = 0, OP_NUMBER = 1, OP_ANSWER = 2, OP_FROM = 3, OP_TO = 4, OP_FIELDS = 5;

    private final Parser parser = new Parser();
    private final ArrayList<Parcel> parcels = new ArrayList<>();
    private final Machine machine = new Machine();
    private int twinsMade;
    private final ArrayList<Build> builds = new ArrayList<>();
    private final ArrayList<History> histories = new ArrayList<>();
    private final Outcome lastAlone = new Outcome();
    private boolean wasAlone;
    private final Luck chances = new Luck();
    private int shareAbove;
    private int shareBelow;
    private final int[] tried = new int[TRIED_FIELDS];
    private final int[] smalls = new int[TRIED_FIELDS];
    // How many numbers are small: NONE before the first property(), 0 of one that held.
    private int smallCount = NONE;
    private final int[] suspects = new int[CASES];
    private final int[] guilty = new int[CASES];
    private int guiltyCount;
    private final int[][] plainResults = new int[RESULT_FIELDS][CASES];
    private final int[][] alteredResults = new int[RESULT_FIELDS][CASES];

    public TestHouse() {
    }

    // ---- the tape

    public int feed(int a, int b, int c, int d, int e) {
        Scanner tape = parser.scanner;
        if (tape.length + 20 > TAPE) {
            return FULL;
        }
        tape.add(a);
        tape.add(b);
        tape.add(c);
        tape.add(d);
        tape.add(e);
        return tape.length;
    }

    public int cut(int n) {
        Scanner tape = parser.scanner;
        if (n < 0 || n > tape.length) {
            return BAD;
        }
        tape.length -= n;
        return tape.length;
    }

    public int parcel() {
        if (parcels.size() >= PARCELS) {
            return FULL;
        }
        parser.read();
        // Also a text with a FAULT is gone: only of FULL it is told that the tape stays.
        parser.scanner.length = 0;
        if (parser.fault != 0) {
            return -10 - parser.place;
        }
        int number = parcels.size();
        parcels.add(new Parcel(parser, number));
        return number;
    }

    public int fault() {
        return parser.fault;
    }

    // ---- what a parcel has

    public int count(int p, int what) {
        if (what == 0) {
            return parcels.size();
        }
        Parcel a = parcelAt(p);
        if (a == null) {
            return BAD;
        }
        switch (what) {
            case 1:
                return a.units.size();
            case 2:
                return a.members.size();
            case 3:
                return a.size;
            case 4:
                return a.cases.size();
            case 5:
                return a.props.size();
            case 6:
                return a.mutants.length;
            default:
                return BAD;
        }
    }

    public int member(int p, int m, int what) {
        Parcel a = parcelAt(p);
        Part part = a == null ? null : partAt(a.members, m);
        if (part == null) {
            return BAD;
        }
        switch (what) {
            case 0:
                return part.unit;
            case 1:
                return part.sort;
            case 2:
                return part.own ? 1 : 0;
            case 3:
                return part.number;
            case 4:
                return part.sort == SORT_FUN ? part.first : NONE;
            default:
                return BAD;
        }
    }

    public int about(int p, int c, int what) {
        Part part = caseAt(parcelAt(p), c);
        if (part == null) {
            return BAD;
        }
        switch (what) {
            case 0:
                return part.unit;
            case 1:
                return part.number;
            case 2:
                return part.raises;
            case 3:
                return part.skip ? 1 : 0;
            case 4:
                return part.first;
            default:
                return BAD;
        }
    }

    public int name(int p, int what, int k, int i) {
        Parcel a = parcelAt(p);
        if (a == null || what < 0 || what > 3) {
            return BAD;
        }
        if (what == 0) {
            return k < 0 || k >= a.units.size() ? BAD : byteOf(a.units.get(k).name, i);
        }
        Part part = partAt(what == 1 ? a.members : what == 2 ? a.cases : a.props, k);
        return part == null ? BAD : byteOf(part.name, i);
    }

    public int code(int p, int i, int what) {
        Parcel a = parcelAt(p);
        if (a == null || i < 0 || i >= a.size || what < 0 || what > 1) {
            return BAD;
        }
        return what == 0 ? a.op[i] : a.operand[i];
    }

    // ---- runs

    public int steps(int n) {
        if (n < 1 || n > MOST_STEPS) {
            return BAD;
        }
        int was = machine.stepLimit;
        machine.stepLimit = n;
        return was;
    }

    public int seed(int x) {
        int was = machine.seed;
        machine.seed = x;
        return was;
    }

    public int swap(int p, int i, int j) {
        Parcel a = parcelAt(p);
        if (a == null || i < 0 || i >= a.order.length || j < 0 || j >= a.order.length) {
            return BAD;
        }
        int moved = a.order[i];
        a.order[i] = a.order[j];
        a.order[j] = moved;
        return a.order[i];
    }

    public int run(int p) {
        Parcel a = parcelAt(p);
        if (a == null) {
            return BAD;
        }
        machine.prepare(a, NO_LIMIT);
        machine.watch(WATCH_ALL);
        a.clearCover();
        runCases(a, a.order, a.order.length, NONE, a.results);
        a.wasRun = true;
        int passed = 0;
        for (int c = 0; c < a.order.length; c++) {
            if (a.results[RESULT_VERDICT][c] == PASSED) {
                passed++;
            }
        }
        return passed;
    }

    public int verdict(int p, int c, int what) {
        Parcel a = parcelAt(p);
        if (caseAt(a, c) == null || what < 0 || what >= RESULT_FIELDS) {
            return BAD;
        }
        return a.wasRun ? a.results[what][c] : NONE;
    }

    public int cover(int p, int i, int what) {
        Parcel a = parcelAt(p);
        if (a == null || i < 0 || i >= a.size || what < 0 || what > 1) {
            return BAD;
        }
        return a.wasRun ? a.covers[what == 0 ? COVER_TIMES : COVER_CASES][i] : NONE;
    }

    public int alone(int p, int c) {
        Parcel a = parcelAt(p);
        Part part = caseAt(a, c);
        if (part == null) {
            return BAD;
        }
        machine.prepare(a, NO_LIMIT);
        return liveWatched(part);
    }

    public int told(int what) {
        if (!wasAlone || what < 0 || what > 3) {
            return BAD;
        }
        switch (what) {
            case 0:
                return lastAlone.failure;
            case 1:
                return lastAlone.where;
            case 2:
                return lastAlone.steps;
            default:
                return lastAlone.draws;
        }
    }

    // ---- doubles

    public int twin(int p, int m) {
        Parcel a = parcelAt(p);
        Part part = a == null ? null : partAt(a.members, m);
        if (part == null || part.sort != SORT_FUN) {
            return BAD;
        }
        Twin free = null;
        for (int i = 0; i < TWINS; i++) {
            if (machine.twins[i].standsFor(p, m)) {
                return NONE;
            }
            if (machine.twins[i].id < 0) {
                free = machine.twins[i];
            }
        }
        if (free == null) {
            return FULL;
        }
        free.begin(twinsMade, p, m, part.number);
        return twinsMade++;
    }

    public int rule(int d, int k, int v, boolean fails, int y) {
        Twin twin = twinAt(d);
        if (twin == null || k < -1 || k >= twin.parameters) {
            return BAD;
        }
        return twin.ruleCount >= RULES ? FULL : twin.addRule(k, v, fails, y);
    }

    public int drop(int d) {
        Twin twin = twinAt(d);
        if (twin == null) {
            return BAD;
        }
        twin.id = NONE;
        return twin.ruleCount;
    }

    public int calls(int d, int i, int what) {
        Twin twin = twinAt(d);
        if (twin == null) {
            return BAD;
        }
        if (i == -1) {
            return twin.callCount;
        }
        if (i < 0 || i >= KEPT_CALLS || i >= twin.callCount || what < -1 || what >= twin.parameters) {
            return BAD;
        }
        return what == -1 ? twin.answeredBy[i] : twin.arguments[i * PARAMETERS + what];
    }

    // ---- mutants

    public int mutant(int p, int k, int what) {
        Parcel a = parcelAt(p);
        if (a == null || k < 0 || k >= a.mutants.length || what < 0 || what > 2) {
            return BAD;
        }
        if (what == 2) {
            return a.wasKilled ? Integer.bitCount(a.kills[k]) : NONE;
        }
        int at = a.mutants[k];
        return what == 0 ? at : INSTEAD[a.op[at]];
    }

    public int kill(int p) {
        Parcel a = parcelAt(p);
        if (a == null) {
            return BAD;
        }
        machine.prepare(a, KILL_WORK);
        runCases(a, a.order, a.order.length, NONE, plainResults);
        for (int k = 0; k < a.mutants.length && !machine.isSpent(); k++) {
            machine.altered = a.mutants[k];
            runCases(a, a.order, a.order.length, NONE, alteredResults);
            a.killsDraft[k] = casesThatDiffer(a.order.length);
        }
        if (machine.isSpent()) {
            return SPENT;
        }
        return a.takeKills();
    }

    public int killed(int p, int k, int c) {
        Parcel a = parcelAt(p);
        if (caseAt(a, c) == null || k < 0 || k >= a.mutants.length) {
            return BAD;
        }
        return a.wasKilled ? a.kills[k] >> c & 1 : NONE;
    }

    public int least(int p, int what) {
        Parcel a = parcelAt(p);
        if (a == null || what < -1) {
            return BAD;
        }
        if (!a.wasKilled) {
            return NONE;
        }
        int suite = a.leastSuite();
        return what == -1 ? Integer.bitCount(suite) : caseOfSuite(suite, what);
    }

    // ---- properties

    public int property(int p, int k, int n) {
        Parcel a = parcelAt(p);
        Part prop = a == null ? null : partAt(a.props, k);
        if (prop == null || n < 1 || n > MOST_TRIES) {
            return BAD;
        }
        machine.prepare(a, WORK);
        boolean held = holdsOften(prop, n);
        boolean taken = !held;
        // A taken number is nearer to 0 or no more below it, so that the end comes long before the bound.
        for (int turn = 0; turn < TURNS && taken && !machine.isSpent(); turn++) {
            taken = takesSmaller(prop);
        }
        if (machine.isSpent()) {
            return SPENT;
        }
        System.arraycopy(tried, 0, smalls, 0, TRIED_FIELDS);
        smallCount = held ? 0 : prop.number;
        return held ? 1 : 0;
    }

    public int small(int what) {
        if (smallCount == NONE || what < -2 || what >= smallCount) {
            return BAD;
        }
        return what == -2 ? smalls[TRIED_TIMES] : what == -1 ? smalls[TRIED_FAILURE] : smalls[what];
    }

    public int smaller(int v, int i) {
        return i < 0 || i >= smallerCount(v) ? NONE : smallerNumber(v, i);
    }

    // ---- histories

    public int history(int kind) {
        if (kind < REGISTER || kind > QUEUE) {
            return BAD;
        }
        if (histories.size() >= HISTORIES) {
            return FULL;
        }
        histories.add(new History(kind));
        return histories.size() - 1;
    }

    public int op(int h, int what, int v, int answer, int from, int to) {
        History history = historyAt(h);
        if (history == null || what < 0 || what > 1 || from < 0 || to > LATEST || from > to) {
            return BAD;
        }
        return history.size >= OPS ? FULL : history.add(what, v, answer, from, to);
    }

    public int linear(int h) {
        History history = historyAt(h);
        if (history == null) {
            return BAD;
        }
        return history.isLinear() ? 1 : 0;
    }

    public int place(int h, int i) {
        History history = historyAt(h);
        if (history == null || i < 0 || i >= history.size) {
            return BAD;
        }
        return history.isLinear() ? history.row[i] : NONE;
    }

    // ---- luck, blame

    public int luck(int p, int c) {
        Parcel a = parcelAt(p);
        Part part = caseAt(a, c);
        if (part == null) {
            return BAD;
        }
        machine.prepare(a, WORK);
        machine.luck = chances;
        int rows = lookAtRows(part);
        if (rows == SPENT) {
            return SPENT;
        }
        if (chances.tooFine) {
            return FINE;
        }
        shareAbove = (int) chances.above;
        shareBelow = (int) chances.below;
        return rows;
    }

    public int share(int what) {
        if (shareBelow == 0 || what < 0 || what > 1) {
            return BAD;
        }
        return what == 0 ? shareAbove : shareBelow;
    }

    public int blame(int p, int c) {
        Parcel a = parcelAt(p);
        Part part = caseAt(a, c);
        if (part == null) {
            return BAD;
        }
        if (part.skip) {
            return NONE;
        }
        machine.prepare(a, WORK);
        int left = placeInOrder(a, c);
        System.arraycopy(a.order, 0, suspects, 0, left);
        suspects[left] = c;
        runCases(a, suspects, left + 1, NONE, plainResults);
        boolean spoilt = machine.outcome.verdict != PASSED;
        boolean blamable = spoilt && !machine.isSpent() && passesAlone(part);
        if (machine.isSpent()) {
            return SPENT;
        }
        if (!blamable) {
            return NONE;
        }
        boolean again = true;
        for (int turn = 0; turn <= CASES && again; turn++) {
            int before = left;
            int i = 0;
            for (int n = 0; n < before && !machine.isSpent(); n++) {
                runCases(a, suspects, left + 1, i, plainResults);
                if (machine.outcome.verdict == PASSED) {
                    i++;
                } else {
                    System.arraycopy(suspects, i + 1, suspects, i, left - i);
                    left--;
                }
            }
            again = left < before;
        }
        if (machine.isSpent()) {
            return SPENT;
        }
        System.arraycopy(suspects, 0, guilty, 0, left);
        guiltyCount = left;
        return left;
    }

    public int blamed(int i) {
        return i < 0 || i >= guiltyCount ? BAD : guilty[i];
    }

    // ---- builds

    public int build(int old, int fresh) {
        Parcel before = parcelAt(old);
        Parcel after = parcelAt(fresh);
        if (before == null || after == null) {
            return BAD;
        }
        if (builds.size() >= BUILDS) {
            return FULL;
        }
        builds.add(new Build(before, after));
        return builds.size() - 1;
    }

    public int foretold(int b, int i) {
        Build build = buildAt(b);
        if (build == null || i < 0 || i >= build.old.size) {
            return BAD;
        }
        if (build.isReplaced(build.old.unitOfCode(i)) || build.old.op[i] < GET || build.old.op[i] > CALL) {
            return NONE;
        }
        int link = build.linkOf(build.old.operand[i]);
        return link == NONE ? NONE : link < 0 ? -link : 0;
    }

    public int touch(int b, int c) {
        Build build = buildAt(b);
        Part part = build == null ? null : caseAt(build.old, c);
        if (part == null) {
            return BAD;
        }
        if (build.isReplaced(part.unit)) {
            return NONE;
        }
        machine.prepare(build.old, NO_LIMIT);
        machine.takeBuild(build);
        return liveWatched(part);
    }

    // ---- what the calls share

    private Parcel parcelAt(int p) {
        return p < 0 || p >= parcels.size() ? null : parcels.get(p);
    }

    private static Part partAt(ArrayList<Part> parts, int i) {
        return i < 0 || i >= parts.size() ? null : parts.get(i);
    }

    private static Part caseAt(Parcel a, int c) {
        return a == null ? null : partAt(a.cases, c);
    }

    private Twin twinAt(int d) {
        for (int i = 0; i < TWINS && d >= 0; i++) {
            if (machine.twins[i].id == d) {
                return machine.twins[i];
            }
        }
        return null;
    }

    private History historyAt(int h) {
        return h < 0 || h >= histories.size() ? null : histories.get(h);
    }

    private Build buildAt(int b) {
        return b < 0 || b >= builds.size() ? null : builds.get(b);
    }

    private static int byteOf(long name, int i) {
        int bytes = (71 - Long.numberOfLeadingZeros(name)) / 8;
        return i < 0 || i >= bytes ? BAD : (int) (name >>> 8 * (bytes - 1 - i)) & 255;
    }

    /** A RUN of some CASES in a row, but for one place; what is told of each is put where its number is. */
    private void runCases(Parcel a, int[] row, int length, int without, int[][] results) {
        machine.beginRun();
        Outcome outcome = machine.outcome;
        for (int i = 0; i < length && !machine.isSpent(); i++) {
            int c = row[i];
            Part part = partAt(a.cases, c);
            if (part != null && i != without) {
                machine.runPlace = i + 1;
                machine.live(part);
                results[RESULT_VERDICT][c] = outcome.verdict;
                results[RESULT_FAILURE][c] = outcome.failure;
                results[RESULT_WHERE][c] = outcome.where;
                results[RESULT_STEPS][c] = outcome.steps;
            }
        }
    }

    private int liveWatched(Part part) {
        machine.watch(WATCH_CALLS);
        machine.beginRun();
        machine.live(part);
        lastAlone.copy(machine.outcome);
        wasAlone = true;
        return lastAlone.verdict;
    }

    private int casesThatDiffer(int cases) {
        int mask = 0;
        for (int c = 0; c < cases; c++) {
            if (plainResults[RESULT_VERDICT][c] != alteredResults[RESULT_VERDICT][c]
                    || plainResults[RESULT_FAILURE][c] != alteredResults[RESULT_FAILURE][c]) {
                mask |= 1 << c;
            }
        }
        return mask;
    }

    private static int caseOfSuite(int suite, int what) {
        int ahead = 0;
        for (int c = 0; c < CASES; c++) {
            if ((suite >> c & 1) == 1) {
                if (ahead == what) {
                    return c;
                }
                ahead++;
            }
        }
        return BAD;
    }

    private boolean holdsOften(Part prop, int n) {
        int y = machine.seed;
        tried[TRIED_FAILURE] = 0;
        tried[TRIED_TIMES] = 0;
        boolean held = true;
        for (int t = 0; t < n && held && !machine.isSpent(); t++) {
            int s = Math.min(t, WIDEST);
            for (int j = 0; j < prop.number && j < PARAMETERS; j++) {
                y = y * FACTOR + ADDEND;
                tried[j] = (y >>> 16) % (2 * s + 1) - s;
            }
            held = machine.holds(prop, tried);
        }
        return held;
    }

    /** Whether a SMALLER number of a parameter was taken; what it failed by stays that of those taken last. */
    private boolean takesSmaller(Part prop) {
        for (int j = 0; j < prop.number && j < PARAMETERS; j++) {
            int v = tried[j];
            int many = smallerCount(v);
            for (int i = 0; i < many; i++) {
                tried[j] = smallerNumber(v, i);
                if (!machine.holds(prop, tried)) {
                    return true;
                }
            }
            tried[j] = v;
        }
        return false;
    }

    private static int smallerCount(int v) {
        if (v == 0) {
            return 0;
        }
        int halvings = 63 - Long.numberOfLeadingZeros(Math.abs((long) v));
        return (v < 0 ? 2 : 1) + halvings;
    }

    private static int smallerNumber(int v, int i) {
        if (i == 0) {
            return 0;
        }
        if (v < 0 && i == 1) {
            return -v;
        }
        int halvings = v < 0 ? i - 1 : i;
        return (int) (v - v / (1L << halvings));
    }

    /** All rows of DRAWS of a CASE, one after the other: how many, or SPENT. */
    private int lookAtRows(Part part) {
        chances.begin();
        for (int rows = 1; rows <= MOST_ROWS; rows++) {
            chances.beginRow();
            machine.beginRun();
            machine.live(part);
            if (machine.isSpent()) {
                return SPENT;
            }
            if (machine.outcome.verdict == PASSED) {
                chances.addRow();
            }
            if (!chances.nextRow()) {
                return rows;
            }
        }
        return SPENT;
    }

    private boolean passesAlone(Part part) {
        machine.beginRun();
        machine.live(part);
        return machine.outcome.verdict == PASSED;
    }

    private static int placeInOrder(Parcel a, int c) {
        int place = 0;
        for (int i = 0; i < a.order.length; i++) {
            if (a.order[i] == c) {
                place = i;
            }
        }
        return place;
    }

    /** The tape and its tokens; a bad token is the last one. */
    private static final class Scanner {
        final byte[] tape = new byte[TAPE];
        int length;
        final int[] kinds = new int[TAPE + 1];
        final int[] places = new int[TAPE + 1];
        // The bytes of a NAME, the value of a NUMBER.
        final long[] texts = new long[TAPE + 1];
        private final long[] words = new long[WORDS];
        private int size;
        private int at;

        Scanner() {
            int word = 0;
            for (int i = 0; i < WORD_LIST.length() && word < WORDS; i++) {
                char c = WORD_LIST.charAt(i);
                if (c == ' ') {
                    word++;
                } else {
                    words[word] = words[word] << 8 | c;
                }
            }
        }

        void add(int number) {
            for (int shift = 24; shift >= 0 && length < TAPE; shift -= 8) {
                tape[length] = (byte) (number >>> shift);
                length++;
            }
        }

        void scan() {
            size = 0;
            at = 0;
            boolean more = true;
            for (int n = 0; n <= TAPE && more; n++) {
                skipBlanks();
                places[size] = at;
                texts[size] = 0;
                kinds[size] = at >= length ? END : isLetter(at) ? wordHere() : isDigit(at) ? numberHere() : signHere();
                more = kinds[size] != END && kinds[size] != NO_TOKEN;
                size++;
            }
        }

        private void skipBlanks() {
            while (at < length && (tape[at] == 10 || tape[at] == 13 || tape[at] == 32)) {
                at++;
            }
        }

        private boolean isLetter(int i) {
            return i < length && tape[i] >= 'a' && tape[i] <= 'z';
        }

        private boolean isDigit(int i) {
            return i < length && tape[i] >= '0' && tape[i] <= '9';
        }

        private int wordHere() {
            int from = at;
            long text = 0;
            while (at < length && (isLetter(at) || isDigit(at))) {
                text = text << 8 | tape[at];
                at++;
            }
            if (at - from > LONGEST_NAME) {
                return NO_TOKEN;
            }
            texts[size] = text;
            for (int word = 0; word < WORDS; word++) {
                if (words[word] == text) {
                    return WORD_UNIT + word;
                }
            }
            return NAME;
        }

        private int numberHere() {
            int from = at;
            long value = 0;
            while (at < length && isDigit(at)) {
                value = value * 10 + (tape[at] - '0');
                at++;
            }
            if (at - from > LONGEST_NUMBER || isLetter(at)) {
                return NO_TOKEN;
            }
            texts[size] = value;
            return NUMBER;
        }

        private int signHere() {
            int sign = tape[at];
            boolean same = at + 1 < length && tape[at + 1] == '=';
            at++;
            if (same && (sign == '<' || sign == '=' || sign == '!')) {
                at++;
                return sign == '<' ? LESS_SAME : sign == '=' ? SAME : OTHER;
            }
            return sign > 0 && SIGNS.indexOf((char) sign) >= 0 ? sign : NO_TOKEN;
        }
    }

    /** A unit: where its codes begin, and which members and instructions are its own. */
    private static final class Unit {
        final long name;
        final int firstMember;
        int endMember;
        final int firstCode;
        int endCode;
        int start = NONE;
        final int[] befores = new int[WINGS];
        int beforeCount;
        final int[] afters = new int[WINGS];
        int afterCount;

        Unit(long name, int firstMember, int firstCode) {
            this.name = name;
            this.firstMember = firstMember;
            this.endMember = firstMember;
            this.firstCode = firstCode;
            this.endCode = firstCode;
        }
    }

    /** A member, a CASE or a prop of a unit. */
    private static final class Part {
        final long name;
        final int unit;
        final int sort;
        boolean own;
        // What is told: a value, a row's size, a CASE's number, how many parameters.
        int number;
        int first = NONE;
        int raises;
        boolean skip;
        // Where its value, or its row, begins among those of its parcel.
        int cell;

        Part(long name, int unit, int sort) {
            this.name = name;
            this.unit = unit;
            this.sort = sort;
        }
    }

    /** Reads the tape as a PARCEL. From the first FAULT on no token fits any more, so that all comes to its end. */
    private static final class Parser {
        final Scanner scanner = new Scanner();
        ArrayList<Unit> units;
        ArrayList<Part> members;
        ArrayList<Part> cases;
        ArrayList<Part> props;
        final int[] op = new int[DRAFT];
        final int[] operand = new int[DRAFT];
        final int[] catcher = new int[DRAFT];
        final boolean[] alterable = new boolean[DRAFT];
        int size;
        int fault;
        int place;
        private int at;
        private int kind;
        private int codeBegin;
        private final long[] locals = new long[LOCALS];
        private int seen;
        private final int[][] uses = new int[USE_FIELDS][USES];
        private final long[][] useTexts = new long[2][USES];
        private int useCount;

        void read() {
            units = new ArrayList<>();
            members = new ArrayList<>();
            cases = new ArrayList<>();
            props = new ArrayList<>();
            size = 0;
            fault = 0;
            useCount = 0;
            scanner.scan();
            at = 0;
            kind = scanner.kinds[0];
            for (int n = 0; n < TAPE && (n == 0 || kind == WORD_UNIT); n++) {
                readUnitHead();
                for (int m = 0; m < TAPE && kind != '}' && kind != STOPPED; m++) {
                    readMember();
                }
                expect('}');
                Unit unit = units.get(units.size() - 1);
                unit.endMember = members.size();
                unit.endCode = size;
            }
            if (kind != END) {
                stop(FAULT_PLACE);
            }
            settleUses();
        }

        // -- tokens

        private void stop(int number) {
            if (fault == 0) {
                fault = kind == NO_TOKEN ? FAULT_TOKEN : number;
                place = scanner.places[at];
            }
            kind = STOPPED;
        }

        private void advance() {
            if (kind != STOPPED && at < TAPE) {
                at++;
                kind = scanner.kinds[at];
            }
        }

        private void expect(int wanted) {
            if (kind == wanted) {
                advance();
            } else {
                stop(FAULT_PLACE);
            }
        }

        private long text() {
            return scanner.texts[at];
        }

        /** A NAME that is told here: it may not be known, and not be one too many. */
        private long newName(boolean known, boolean full) {
            long name = text();
            if (kind != NAME) {
                stop(FAULT_PLACE);
            } else if (known) {
                stop(FAULT_TWICE);
            } else if (full) {
                stop(FAULT_MANY);
            } else {
                advance();
            }
            return name;
        }

        private int numberFrom(int least, int most) {
            int number = (int) text();
            if (kind == NUMBER && (number < least || number > most)) {
                stop(FAULT_NUMBER);
            }
            expect(NUMBER);
            return number;
        }

        private int signed() {
            boolean minus = kind == '-';
            if (minus) {
                advance();
            }
            int number = (int) text();
            expect(NUMBER);
            return minus ? -number : number;
        }

        /** Goes into one more of { ( [ - not draw. */
        private void goDeeper(int wanted, int depth) {
            if (kind != wanted) {
                stop(FAULT_PLACE);
            } else if (depth >= NESTED) {
                stop(FAULT_MANY);
            } else {
                advance();
            }
        }

        // -- what is told already

        private int unitNamed(long name) {
            for (int i = 0; i < units.size(); i++) {
                if (units.get(i).name == name) {
                    return i;
                }
            }
            return NONE;
        }

        private int memberNamed(int unit, long name) {
            for (int i = 0; i < members.size(); i++) {
                if (members.get(i).unit == unit && members.get(i).name == name) {
                    return i;
                }
            }
            return NONE;
        }

        private boolean isTold(ArrayList<Part> parts, long name) {
            for (int i = 0; i < parts.size(); i++) {
                if (parts.get(i).unit == units.size() - 1 && parts.get(i).name == name) {
                    return true;
                }
            }
            return false;
        }

        private boolean isMemberTold() {
            long name = text();
            return isTold(members, name) || isTold(cases, name) || isTold(props, name);
        }

        private int localNamed(long name) {
            for (int i = 0; i < seen; i++) {
                if (locals[i] == name) {
                    return i;
                }
            }
            return NONE;
        }

        private void addLocal(long name) {
            if (seen < LOCALS) {
                locals[seen] = name;
                seen++;
            }
        }

        // -- members

        private void readUnitHead() {
            expect(WORD_UNIT);
            long name = newName(unitNamed(text()) >= 0, units.size() >= UNITS);
            units.add(new Unit(name, members.size(), size));
            expect('{');
        }

        private void readMember() {
            boolean own = kind == WORD_OWN;
            if (own) {
                advance();
            }
            if (kind == WORD_CONST || kind == WORD_VAR || kind == WORD_SHARED) {
                readValue(own);
            } else if (kind == WORD_ROW) {
                readRow(own);
            } else if (own && kind != WORD_FUN) {
                stop(FAULT_PLACE);
            } else {
                codeBegin = size;
                seen = 0;
                boolean altered = kind == WORD_FUN || kind == WORD_START;
                if (kind == WORD_FUN) {
                    readFun(own);
                } else if (kind == WORD_START || kind == WORD_BEFORE || kind == WORD_AFTER) {
                    readNameless(units.get(units.size() - 1));
                } else if (kind == WORD_TEST) {
                    readTest();
                } else if (kind == WORD_PROP) {
                    readProp();
                } else {
                    stop(FAULT_PLACE);
                }
                block(0);
                for (int i = codeBegin; i < size; i++) {
                    alterable[i] = altered;
                }
            }
        }

        private Part newMember(int sort, boolean own) {
            advance();
            int unit = units.size() - 1;
            int many = members.size() - units.get(unit).firstMember;
            Part part = new Part(newName(isMemberTold(), many >= MEMBERS), unit, sort);
            part.own = own;
            members.add(part);
            return part;
        }

        private void readValue(boolean own) {
            int sort = kind == WORD_CONST ? SORT_CONST : kind == WORD_VAR ? SORT_VAR : SORT_SHARED;
            Part part = newMember(sort, own);
            expect('=');
            part.number = signed();
            expect(';');
        }

        private void readRow(boolean own) {
            Part part = newMember(SORT_ROW, own);
            expect('[');
            part.number = numberFrom(1, ROW_SIZE);
            expect(']');
            expect(';');
        }

        private void readFun(boolean own) {
            Part part = newMember(SORT_FUN, own);
            expect('(');
            if (kind != ')') {
                readParameters();
            }
            expect(')');
            part.number = seen;
            part.first = size;
        }

        private void readParameters() {
            boolean more = true;
            for (int n = 0; n < TAPE && more; n++) {
                addLocal(newName(localNamed(text()) >= 0, seen >= PARAMETERS));
                more = kind == ',';
                if (more) {
                    advance();
                }
            }
        }

        /** start, before, after. */
        private void readNameless(Unit unit) {
            int word = kind;
            boolean full = word == WORD_START ? unit.start >= 0
                    : word == WORD_BEFORE ? unit.beforeCount >= WINGS : unit.afterCount >= WINGS;
            if (full) {
                stop(FAULT_MANY);
                return;
            }
            advance();
            if (word == WORD_START) {
                unit.start = size;
            } else if (word == WORD_BEFORE) {
                unit.befores[unit.beforeCount] = size;
                unit.beforeCount++;
            } else {
                unit.afters[unit.afterCount] = size;
                unit.afterCount++;
            }
        }

        private void readTest() {
            advance();
            int firstCase = cases.size();
            long name = newName(isMemberTold(), firstCase >= CASES);
            Part part = new Part(name, units.size() - 1, SORT_CASE);
            cases.add(part);
            if (kind == WORD_SKIP) {
                part.skip = true;
                advance();
            }
            if (kind == WORD_RAISES) {
                advance();
                part.raises = numberFrom(1, LARGEST_NUMBER);
            }
            if (kind == WORD_WITH) {
                advance();
                readWith(part);
            }
            for (int c = firstCase; c < cases.size(); c++) {
                cases.get(c).first = size;
            }
            addLocal(IT);
        }

        private void readWith(Part part) {
            part.number = signed();
            for (int n = 1; n < TAPE && kind == ','; n++) {
                advance();
                if ((kind == '-' || kind == NUMBER) && (n >= WITHS || cases.size() >= CASES)) {
                    stop(FAULT_MANY);
                }
                Part another = new Part(part.name, part.unit, SORT_CASE);
                another.skip = part.skip;
                another.raises = part.raises;
                another.number = signed();
                cases.add(another);
            }
        }

        private void readProp() {
            advance();
            Part part = new Part(newName(isMemberTold(), props.size() >= PROPS), units.size() - 1, SORT_PROP);
            props.add(part);
            expect('(');
            readParameters();
            expect(')');
            part.number = seen;
            part.first = size;
        }

        // -- codes

        private int emit(int operation, int number) {
            if (size >= DRAFT) {
                return DRAFT - 1;
            }
            op[size] = operation;
            operand[size] = number;
            catcher[size] = NONE;
            size++;
            return size - 1;
        }

        /** The size of a code is judged at the } that ends it, ahead of the token behind. */
        private void endCode() {
            emit(PUSH, 0);
            emit(RETURN, 0);
            if (kind == '}' && (size - codeBegin > CODE || size > ALL_CODES)) {
                stop(FAULT_MANY);
            }
        }

        private void block(int depth) {
            goDeeper('{', depth);
            int seenAround = seen;
            for (int n = 0; n < TAPE && kind != '}' && kind != STOPPED; n++) {
                statement(depth + 1);
            }
            if (depth == 0) {
                endCode();
            }
            expect('}');
            seen = seenAround;
        }

        private void statement(int depth) {
            switch (kind) {
                case WORD_LET:
                    letStatement(depth);
                    break;
                case NAME:
                    nameStatement(depth);
                    break;
                case WORD_IF:
                    ifStatement(depth);
                    break;
                case WORD_WHILE:
                    whileStatement(depth);
                    break;
                case WORD_RETURN:
                    valueStatement(RETURN, depth);
                    break;
                case WORD_CHECK:
                    valueStatement(CHECK, depth);
                    break;
                case WORD_RAISE:
                    valueStatement(RAISE, depth);
                    break;
                case WORD_TRY:
                    tryStatement(depth);
                    break;
                default:
                    stop(FAULT_PLACE);
                    break;
            }
        }

        private void valueStatement(int operation, int depth) {
            advance();
            expression(LEVEL_OR, depth);
            expect(';');
            emit(operation, 0);
        }

        private void letStatement(int depth) {
            advance();
            long name = newName(localNamed(text()) >= 0, seen >= LOCALS);
            expect('=');
            expression(LEVEL_OR, depth);
            expect(';');
            emit(STORE, seen);
            addLocal(name);
        }

        private void ifStatement(int depth) {
            advance();
            expression(LEVEL_OR, depth);
            int jump = emit(JUMPZ, 0);
            block(depth);
            if (kind == WORD_ELSE) {
                advance();
                int over = emit(JUMP, 0);
                operand[jump] = size;
                block(depth);
                operand[over] = size;
            } else {
                operand[jump] = size;
            }
        }

        private void whileStatement(int depth) {
            advance();
            int again = size;
            expression(LEVEL_OR, depth);
            int jump = emit(JUMPZ, 0);
            block(depth);
            emit(JUMP, again);
            operand[jump] = size;
        }

        private void tryStatement(int depth) {
            advance();
            int begin = emit(TRY, 0);
            block(depth);
            int end = emit(ENDTRY, 0);
            int over = emit(JUMP, 0);
            operand[begin] = size;
            for (int i = begin + 1; i < end; i++) {
                // Those of a TRY within are told already: the innermost one catches.
                if (catcher[i] == NONE) {
                    catcher[i] = size;
                }
            }
            expect(WORD_CATCH);
            int seenAround = seen;
            long name = newName(localNamed(text()) >= 0, seen >= LOCALS);
            emit(STORE, seen);
            addLocal(name);
            block(depth);
            seen = seenAround;
            operand[over] = size;
        }

        private void nameStatement(int depth) {
            int use = readUse();
            if (kind == '(') {
                readCall(use, depth);
                expect(';');
                emit(POP, 0);
                return;
            }
            boolean inRow = kind == '[';
            if (inRow) {
                readIndex(depth);
            }
            expect('=');
            expression(LEVEL_OR, depth);
            expect(';');
            if (inRow) {
                settleLater(use, FOR_ROW, ROWPUT);
            } else {
                emitPlain(use, FOR_GIVEN, STORE, PUT);
            }
        }

        private void readCall(int use, int depth) {
            goDeeper('(', depth);
            int arguments = 0;
            boolean more = kind != ')';
            for (int n = 0; n < TAPE && more; n++) {
                expression(LEVEL_OR, depth + 1);
                arguments++;
                more = kind == ',';
                if (more) {
                    advance();
                }
            }
            expect(')');
            uses[USE_ARGUMENTS][use] = arguments;
            settleLater(use, FOR_CALL, CALL);
        }

        private void readIndex(int depth) {
            goDeeper('[', depth);
            expression(LEVEL_OR, depth + 1);
            expect(']');
        }

        private void expression(int level, int depth) {
            if (level > LEVEL_PRODUCT) {
                factor(depth);
                return;
            }
            if (level == LEVEL_NOT && kind == WORD_NOT) {
                goDeeper(WORD_NOT, depth);
                expression(LEVEL_NOT, depth + 1);
                emit(NOT, 0);
                return;
            }
            expression(level + 1, depth);
            for (int n = 0; n < TAPE && levelOf(kind) == level; n++) {
                int operation = operationOf(kind);
                advance();
                expression(level + 1, depth);
                emit(operation, 0);
                if (level == LEVEL_TEST) {
                    return;
                }
            }
        }

        private void factor(int depth) {
            switch (kind) {
                case NUMBER:
                    emit(PUSH, (int) text());
                    advance();
                    break;
                case '-':
                    goDeeper('-', depth);
                    factor(depth + 1);
                    emit(NEG, 0);
                    break;
                case WORD_DRAW:
                    goDeeper(WORD_DRAW, depth);
                    factor(depth + 1);
                    emit(DRAW, 0);
                    break;
                case '(':
                    goDeeper('(', depth);
                    expression(LEVEL_OR, depth + 1);
                    expect(')');
                    break;
                case NAME:
                    nameFactor(depth);
                    break;
                default:
                    stop(FAULT_PLACE);
                    break;
            }
        }

        private void nameFactor(int depth) {
            int use = readUse();
            if (kind == '(') {
                readCall(use, depth);
            } else if (kind == '[') {
                readIndex(depth);
                settleLater(use, FOR_ROW, ROWGET);
            } else {
                emitPlain(use, FOR_VALUE, LOAD, GET);
            }
        }

        private static int levelOf(int kind) {
            switch (kind) {
                case WORD_OR:
                    return LEVEL_OR;
                case WORD_AND:
                    return LEVEL_AND;
                case '<':
                case LESS_SAME:
                case SAME:
                case OTHER:
                    return LEVEL_TEST;
                case '+':
                case '-':
                    return LEVEL_SUM;
                case '*':
                case '/':
                case '%':
                    return LEVEL_PRODUCT;
                default:
                    return NONE;
            }
        }

        private static int operationOf(int kind) {
            switch (kind) {
                case WORD_OR:
                    return OR;
                case WORD_AND:
                    return AND;
                case '<':
                    return LT;
                case LESS_SAME:
                    return LE;
                case SAME:
                    return EQ;
                case OTHER:
                    return NE;
                case '+':
                    return ADD;
                case '-':
                    return SUB;
                case '*':
                    return MUL;
                case '/':
                    return DIV;
                default:
                    return MOD;
            }
        }

        // -- uses of NAMES: what they mean is known when the whole tape has been read

        /** [NAME .] NAME, the first of which is looked at. */
        private int readUse() {
            int use = Math.min(useCount, USES - 1);
            useCount = use + 1;
            uses[USE_FOR][use] = FOR_LOCAL;
            uses[USE_UNIT][use] = units.size() - 1;
            useTexts[UNIT_TEXT][use] = 0;
            useTexts[MEMBER_TEXT][use] = text();
            uses[USE_PLACE][use] = scanner.places[at];
            advance();
            if (kind == '.') {
                advance();
                useTexts[UNIT_TEXT][use] = useTexts[MEMBER_TEXT][use];
                uses[USE_UNIT_PLACE][use] = uses[USE_PLACE][use];
                useTexts[MEMBER_TEXT][use] = text();
                uses[USE_PLACE][use] = scanner.places[at];
                if (kind == NAME) {
                    advance();
                } else {
                    stop(FAULT_PLACE);
                }
            }
            return use;
        }

        private void settleLater(int use, int purpose, int operation) {
            uses[USE_FOR][use] = purpose;
            uses[USE_CODE][use] = emit(operation, 0);
        }

        /** A NAME without [ or ( behind: of a LOCAL, or of a member. */
        private void emitPlain(int use, int purpose, int ofLocal, int ofMember) {
            int local = useTexts[UNIT_TEXT][use] == 0 ? localNamed(useTexts[MEMBER_TEXT][use]) : NONE;
            uses[USE_FOR][use] = local >= 0 ? FOR_LOCAL : purpose;
            uses[USE_CODE][use] = local >= 0 ? emit(ofLocal, local) : emit(ofMember, 0);
        }

        private void settleUses() {
            for (int use = 0; use < useCount && fault == 0; use++) {
                if (uses[USE_FOR][use] != FOR_LOCAL) {
                    settle(use);
                }
            }
        }

        private void settle(int use) {
            int around = uses[USE_UNIT][use];
            long unitText = useTexts[UNIT_TEXT][use];
            int unit = unitText == 0 ? around : unitNamed(unitText);
            int m = memberNamed(unit, useTexts[MEMBER_TEXT][use]);
            Part part = m < 0 ? null : members.get(m);
            boolean fits = part != null && (!part.own || unit == around) && suits(part, use);
            if (!fits) {
                fault = FAULT_MEANING;
                place = uses[unit < 0 ? USE_UNIT_PLACE : USE_PLACE][use];
                return;
            }
            int code = uses[USE_CODE][use];
            if (part.sort == SORT_CONST) {
                op[code] = PUSH;
                operand[code] = part.number;
            } else {
                operand[code] = m;
            }
        }

        private boolean suits(Part part, int use) {
            switch (uses[USE_FOR][use]) {
                case FOR_VALUE:
                    return part.sort <= SORT_SHARED;
                case FOR_GIVEN:
                    return part.sort == SORT_VAR || part.sort == SORT_SHARED;
                case FOR_ROW:
                    return part.sort == SORT_ROW;
                default:
                    return part.sort == SORT_FUN && part.number == uses[USE_ARGUMENTS][use];
            }
        }
    }

    /** A parcel: what was read, its ORDER, and what is told of its latest run() and kill(). */
    private static final class Parcel {
        final int id;
        final ArrayList<Unit> units;
        final ArrayList<Part> members;
        final ArrayList<Part> cases;
        final ArrayList<Part> props;
        final int size;
        final int[] op;
        final int[] operand;
        final int[] catcher;
        final int[] mutants;
        final int[] order;
        final int[][] results;
        final int[][] covers;
        boolean wasRun;
        // For each MUTANT the CASES that kill it, a bit each.
        int[] kills;
        int[] killsDraft;
        boolean wasKilled;
        // The LEAST SUITE as such bits; NONE: it was not asked since the latest kill().
        private int suite = NONE;

        Parcel(Parser draft, int id) {
            this.id = id;
            units = draft.units;
            members = draft.members;
            cases = draft.cases;
            props = draft.props;
            size = draft.size;
            op = Arrays.copyOf(draft.op, size);
            operand = Arrays.copyOf(draft.operand, size);
            catcher = Arrays.copyOf(draft.catcher, size);
            mutants = mutantsOf(draft);
            order = new int[cases.size()];
            for (int c = 0; c < order.length; c++) {
                order[c] = c;
            }
            results = new int[RESULT_FIELDS][order.length];
            covers = new int[COVER_FIELDS][size];
            kills = new int[mutants.length];
            killsDraft = new int[mutants.length];
            shareCells(members);
        }

        private static int[] mutantsOf(Parser draft) {
            int[] found = new int[draft.size];
            int many = 0;
            for (int i = 0; i < draft.size; i++) {
                int operation = draft.op[i];
                if (draft.alterable[i] && operation < INSTEAD.length && INSTEAD[operation] >= 0) {
                    found[many] = i;
                    many++;
                }
            }
            return Arrays.copyOf(found, many);
        }

        private static void shareCells(ArrayList<Part> members) {
            int cell = 0;
            for (int m = 0; m < members.size(); m++) {
                Part part = members.get(m);
                part.cell = cell;
                cell += part.sort == SORT_ROW ? part.number : 1;
            }
        }

        int unitOfCode(int i) {
            for (int u = 0; u < units.size(); u++) {
                if (i >= units.get(u).firstCode && i < units.get(u).endCode) {
                    return u;
                }
            }
            return NONE;
        }

        void clearCover() {
            for (int field = 0; field < COVER_FIELDS; field++) {
                Arrays.fill(covers[field], 0);
            }
        }

        void noteBegun(int i, int runPlace) {
            covers[COVER_TIMES][i]++;
            if (covers[COVER_LATEST][i] != runPlace) {
                covers[COVER_LATEST][i] = runPlace;
                covers[COVER_CASES][i]++;
            }
        }

        /** What the latest kill() found is told from now on: how many MUTANTS are KILLED. */
        int takeKills() {
            int[] old = kills;
            kills = killsDraft;
            killsDraft = old;
            wasKilled = true;
            suite = NONE;
            int many = 0;
            for (int k = 0; k < kills.length; k++) {
                if (kills[k] != 0) {
                    many++;
                }
            }
            return many;
        }

        int leastSuite() {
            if (suite != NONE) {
                return suite;
            }
            int useful = 0;
            for (int k = 0; k < kills.length; k++) {
                useful |= kills[k];
            }
            int best = useful;
            int some = 0;
            // All sets of useful CASES, in the order of their bits.
            for (int n = 0; n < 1 << CASES && some != useful; n++) {
                if (isBetter(some, best) && killsAll(some)) {
                    best = some;
                }
                some = some - useful & useful;
            }
            suite = best;
            return suite;
        }

        private static boolean isBetter(int some, int best) {
            int fewer = Integer.bitCount(best) - Integer.bitCount(some);
            int differing = some ^ best;
            // Of two of one size the one that has the lowest CASE in which they differ is ahead.
            return fewer > 0 || fewer == 0 && (some & differing & -differing) != 0;
        }

        private boolean killsAll(int some) {
            for (int k = 0; k < kills.length; k++) {
                if (kills[k] != 0 && (kills[k] & some) == 0) {
                    return false;
                }
            }
            return true;
        }
    }

    /** What is told of a CASE that was run. */
    private static final class Outcome {
        int verdict;
        int failure;
        int where;
        int steps;
        int draws;

        void tell(int verdict, int failure, int where) {
            this.verdict = verdict;
            this.failure = failure;
            this.where = where;
        }

        void copy(Outcome other) {
            tell(other.verdict, other.failure, other.where);
            steps = other.steps;
            draws = other.draws;
        }
    }

    /** Does the codes of a parcel (side 0) and, in a BUILD, of the new one (side 1). */
    private static final class Machine {
        final Outcome outcome = new Outcome();
        int stepLimit = 200;
        int seed = 1;
        // The instruction that is altered, or NONE.
        int altered;
        Luck luck;
        int runPlace;
        private int watching;
        final Twin[] twins = new Twin[TWINS];
        private final Parcel[] sides = new Parcel[2];
        private Build build;
        // How many STEPS may still be made in all; below 0: one more would have been.
        private int work;
        private final int[] stack = new int[OPEN_CODES * OPERANDS];
        private int top;
        private final int[][] frames = new int[OPEN_CODES][FRAME_FIELDS];
        private int open;
        private boolean resumed;
        private final int[] cells = new int[2 * CELLS];
        private final int[] begun = new int[2 * UNITS];
        private int x;
        private int failing;
        private int failure;
        private int where;

        Machine() {
            for (int i = 0; i < TWINS; i++) {
                twins[i] = new Twin();
            }
        }

        void prepare(Parcel parcel, int mostSteps) {
            sides[0] = parcel;
            sides[1] = null;
            build = null;
            work = mostSteps;
            altered = NONE;
            luck = null;
            watching = WATCH_NOTHING;
        }

        void takeBuild(Build build) {
            this.build = build;
            sides[1] = build.fresh;
        }

        void watch(int what) {
            watching = what;
            for (int i = 0; i < TWINS; i++) {
                twins[i].callCount = 0;
            }
        }

        boolean isSpent() {
            return work < 0;
        }

        void beginRun() {
            for (int side = 0; side < 2; side++) {
                Parcel parcel = sides[side];
                for (int m = 0; parcel != null && m < parcel.members.size(); m++) {
                    Part part = parcel.members.get(m);
                    if (part.sort == SORT_SHARED) {
                        cells[side * CELLS + part.cell] = part.number;
                    }
                }
            }
        }

        private void beginState() {
            Arrays.fill(begun, NOT_BEGUN);
            x = seed;
            outcome.steps = 0;
            outcome.draws = 0;
        }

        /** The LIFE of a CASE; outcome tells what came of it. */
        void live(Part part) {
            beginState();
            outcome.tell(SKIPPED, 0, NONE);
            if (part.skip || sides[0] == null || part.unit >= sides[0].units.size()) {
                return;
            }
            Unit unit = sides[0].units.get(part.unit);
            boolean sound = true;
            for (int i = 0; i < unit.beforeCount && sound; i++) {
                sound = execute(unit.befores[i]);
            }
            if (sound) {
                stack[0] = part.number;
                sound = execute(part.first);
                judge(part, sound);
            } else {
                outcome.tell(BROKEN, failure, where);
            }
            for (int i = unit.afterCount - 1; i >= 0 && failing != OVER; i--) {
                sound = execute(unit.afters[i]);
                if (!sound && outcome.verdict == PASSED) {
                    outcome.tell(BADLY_ENDED, failure, where);
                }
            }
        }

        private void judge(Part part, boolean sound) {
            boolean due = part.raises == 0 ? sound : !sound && failure == part.raises;
            if (due) {
                outcome.tell(PASSED, 0, NONE);
            } else if (sound) {
                outcome.tell(FAILED, BY_NOTHING, NONE);
            } else {
                outcome.tell(FAILED, failure, where);
            }
        }

        /** Whether a prop holds for numbers. Behind them is told by what it failed last, and how often it was done. */
        boolean holds(Part prop, int[] numbers) {
            beginRun();
            beginState();
            System.arraycopy(numbers, 0, stack, 0, PARAMETERS);
            boolean sound = execute(prop.first);
            if (!sound) {
                numbers[TRIED_FAILURE] = failure;
            }
            numbers[TRIED_TIMES]++;
            return sound;
        }

        /** Does a code, its parameters standing at the bottom of the stack: whether it did not fail. */
        private boolean execute(int first) {
            failing = SOUND;
            resumed = false;
            open = 0;
            enter(first, 0, 0, NONE);
            for (int n = 0; n < TURNS && open > 0; n++) {
                int[] frame = frames[open - 1];
                Parcel parcel = sides[frame[FRAME_SIDE]];
                if (parcel == null || frame[FRAME_AT] < 0 || frame[FRAME_AT] >= parcel.size) {
                    open = 0;
                } else if (resumed || begins(parcel, frame)) {
                    resumed = false;
                    obey(parcel, frame);
                }
            }
            return failing == SOUND;
        }

        private void enter(int first, int base, int side, int starts) {
            int[] frame = frames[open];
            frame[FRAME_AT] = first;
            frame[FRAME_BASE] = base;
            frame[FRAME_SIDE] = side;
            frame[FRAME_STARTS] = starts;
            open++;
            top = base + LOCALS;
        }

        /** An instruction begins, if there is a STEP for it. */
        private boolean begins(Parcel parcel, int[] frame) {
            boolean late = outcome.steps >= stepLimit;
            if (late || work <= 0) {
                work = late ? work : -1;
                failing = OVER;
                failure = BY_STEPS;
                where = frame[FRAME_AT] + NEW_SIDE * frame[FRAME_SIDE];
                open = 0;
                return false;
            }
            outcome.steps++;
            work--;
            if (watching == WATCH_ALL) {
                parcel.noteBegun(frame[FRAME_AT], runPlace);
            }
            return true;
        }

        private void obey(Parcel parcel, int[] frame) {
            int at = frame[FRAME_AT];
            int operation = parcel.op[at];
            int number = parcel.operand[at];
            if (at == altered) {
                number += operation == PUSH ? 1 : 0;
                operation = INSTEAD[operation];
            }
            if (operation >= GET && operation <= CALL) {
                useMember(operation, number, frame);
            } else if (operation >= ADD && operation <= OR) {
                combine(operation, frame);
            } else if (operation >= JUMPZ && operation <= TRY || operation == JUMPN) {
                jump(operation, number, frame);
            } else if (operation == RETURN || operation == ZERO) {
                leave(operation == ZERO ? 0 : pop(), frame);
            } else if (operation == DRAW) {
                drawNumber(frame);
            } else if (operation == RAISE) {
                fail(pop(), CAUGHT);
            } else if (operation == CHECK) {
                checkValue(frame);
            } else {
                doPlain(operation, number, frame);
            }
        }

        private void push(int value) {
            if (top >= 0 && top < stack.length) {
                stack[top] = value;
                top++;
            }
        }

        private int pop() {
            if (top <= 0 || top > stack.length) {
                return 0;
            }
            top--;
            return stack[top];
        }

        private void doPlain(int operation, int number, int[] frame) {
            int local = frame[FRAME_BASE] + number;
            frame[FRAME_AT]++;
            switch (operation) {
                case PUSH:
                    push(number);
                    break;
                case LOAD:
                    push(local >= 0 && local < stack.length ? stack[local] : 0);
                    break;
                case STORE:
                    int value = pop();
                    if (local >= 0 && local < stack.length) {
                        stack[local] = value;
                    }
                    break;
                case POP:
                    pop();
                    break;
                case POP2:
                    pop();
                    pop();
                    break;
                case NOT:
                    push(pop() == 0 ? 1 : 0);
                    break;
                case NEG:
                    push(-pop());
                    break;
                case GONE:
                    Part fun = partAt(sides[frame[FRAME_SIDE]].members, number);
                    top -= fun == null ? 0 : fun.number;
                    push(0);
                    break;
                default:
                    // ENDTRY and KEEP do nothing.
                    break;
            }
        }

        private void checkValue(int[] frame) {
            if (pop() == 0) {
                fail(BY_CHECK, CAUGHT);
            } else {
                frame[FRAME_AT]++;
            }
        }

        private void jump(int operation, int target, int[] frame) {
            boolean jumps = operation == JUMP;
            if (operation == JUMPZ) {
                jumps = pop() == 0;
            } else if (operation == JUMPN) {
                jumps = pop() != 0;
            }
            frame[FRAME_AT] = jumps ? target : frame[FRAME_AT] + 1;
        }

        private void combine(int operation, int[] frame) {
            int b = pop();
            int a = pop();
            if (b == 0 && (operation == DIV || operation == MOD)) {
                fail(BY_ZERO, CAUGHT);
                return;
            }
            push(combined(operation, a, b));
            frame[FRAME_AT]++;
        }

        private static int combined(int operation, int a, int b) {
            switch (operation) {
                case ADD:
                    return a + b;
                case SUB:
                    return a - b;
                case MUL:
                    return a * b;
                case DIV:
                    return b == 0 ? 0 : a / b;
                case MOD:
                    return b == 0 ? 0 : a % b;
                case LT:
                    return a < b ? 1 : 0;
                case LE:
                    return a <= b ? 1 : 0;
                case EQ:
                    return a == b ? 1 : 0;
                case NE:
                    return a != b ? 1 : 0;
                case AND:
                    return a != 0 && b != 0 ? 1 : 0;
                default:
                    return a != 0 || b != 0 ? 1 : 0;
            }
        }

        private void drawNumber(int[] frame) {
            int n = pop();
            if (n < 1) {
                fail(BY_DRAW, CAUGHT);
                return;
            }
            outcome.draws++;
            if (luck != null) {
                push(luck.next(n));
            } else {
                x = x * FACTOR + ADDEND;
                push((x >>> 16) % n);
            }
            frame[FRAME_AT]++;
        }

        /** A code ends; one of a START lets the instruction that waited for it go on. */
        private void leave(int value, int[] frame) {
            open--;
            top = frame[FRAME_BASE];
            if (frame[FRAME_STARTS] >= 0) {
                resumed = true;
            } else if (open > 0) {
                push(value);
                frames[open - 1][FRAME_AT]++;
            }
        }

        /** The instruction that is looked at fails; the codes around it, too, up to a TRY. */
        private void fail(int number, int how) {
            failing = how;
            failure = number;
            boolean arises = true;
            while (open > 0) {
                int[] frame = frames[open - 1];
                if (arises) {
                    where = frame[FRAME_AT] + NEW_SIDE * frame[FRAME_SIDE];
                }
                int caught = sides[frame[FRAME_SIDE]].catcher[frame[FRAME_AT]];
                int base = frame[FRAME_BASE] + LOCALS;
                if (failing == CAUGHT && caught >= 0 && base < stack.length) {
                    frame[FRAME_AT] = caught;
                    stack[base] = failure;
                    top = base + 1;
                    failing = SOUND;
                    return;
                }
                open--;
                // What made a START fail is not told; the one that used the unit fails anew.
                arises = frame[FRAME_STARTS] >= 0;
                if (arises) {
                    begun[frame[FRAME_STARTS]] = LOST;
                    failing = CAUGHT;
                    failure = BY_START;
                }
            }
        }

        private void useMember(int operation, int number, int[] frame) {
            int side = frame[FRAME_SIDE];
            int m = number;
            int link = build == null || side != 0 ? NONE : build.linkOf(number);
            if (link >= 0) {
                side = 1;
                m = link;
            } else if (link != NONE) {
                fail(-link, CAUGHT);
                return;
            }
            Part part = partAt(sides[side].members, m);
            if (part == null || !seesTo(side, part.unit)) {
                return;
            }
            int cell = side * CELLS + part.cell;
            if (operation == CALL) {
                callFun(side, m, part);
            } else if (operation == GET) {
                push(cells[cell]);
                frame[FRAME_AT]++;
            } else if (operation == PUT) {
                cells[cell] = pop();
                frame[FRAME_AT]++;
            } else {
                useRow(operation, cell, part.number);
            }
        }

        private void useRow(int operation, int cell, int length) {
            int[] frame = frames[open - 1];
            int value = operation == ROWPUT ? pop() : 0;
            int index = pop();
            if (index < 0 || index >= length) {
                fail(BY_INDEX, CAUGHT);
                return;
            }
            if (operation == ROWPUT) {
                cells[cell + index] = value;
            } else {
                push(cells[cell + index]);
            }
            frame[FRAME_AT]++;
        }

        /** Whether a unit has begun; if not, it begins here, or what uses it fails. */
        private boolean seesTo(int side, int u) {
            int key = side * UNITS + u;
            if (begun[key] == BEGUN) {
                return true;
            }
            if (begun[key] == LOST) {
                fail(BY_LOST_UNIT, CAUGHT);
                return false;
            }
            Unit unit = sides[side].units.get(u);
            begun[key] = BEGUN;
            setOut(side, unit);
            if (unit.start < 0) {
                return true;
            }
            if (open >= OPEN_CODES) {
                begun[key] = LOST;
                fail(BY_START, CAUGHT);
            } else {
                enter(unit.start, top, side, key);
            }
            return false;
        }

        private void setOut(int side, Unit unit) {
            for (int m = unit.firstMember; m < unit.endMember; m++) {
                Part part = sides[side].members.get(m);
                int cell = side * CELLS + part.cell;
                if (part.sort == SORT_VAR) {
                    cells[cell] = part.number;
                } else if (part.sort == SORT_ROW) {
                    Arrays.fill(cells, cell, cell + part.number, 0);
                }
            }
        }

        private void callFun(int side, int m, Part part) {
            int base = Math.max(0, top - part.number);
            Twin twin = null;
            for (int i = 0; i < TWINS; i++) {
                twin = twins[i].standsFor(sides[side].id, m) ? twins[i] : twin;
            }
            int rule = twin == null ? NONE : twin.fitting(stack, base);
            if (twin != null && watching != WATCH_NOTHING) {
                twin.note(stack, base, rule);
            }
            if (rule >= 0 && twin.rules[rule * RULE_FIELDS + RULE_FAILS] == 1) {
                fail(twin.rules[rule * RULE_FIELDS + RULE_ANSWER], CAUGHT);
            } else if (rule >= 0) {
                top = base;
                push(twin.rules[rule * RULE_FIELDS + RULE_ANSWER]);
                frames[open - 1][FRAME_AT]++;
            } else if (open >= OPEN_CODES) {
                fail(BY_DEPTH, UNCAUGHT);
            } else {
                enter(part.first, base, side, NONE);
            }
        }
    }

    /** Rows of DRAWS, one after the other, and the sum of the shares of some. */
    private static final class Luck {
        long above;
        long below;
        boolean tooFine;
        private final int[] numbers = new int[MOST_STEPS];
        private final int[] ranges = new int[MOST_STEPS];
        private int length;
        private int at;

        void begin() {
            above = 0;
            below = 1;
            tooFine = false;
            length = 0;
        }

        void beginRow() {
            at = 0;
        }

        /** The number of the next DRAW of n: as this row has it, and 0 behind its end. */
        int next(int n) {
            if (at >= MOST_STEPS) {
                return 0;
            }
            if (at >= length) {
                numbers[at] = 0;
                ranges[at] = n;
                length = at + 1;
            }
            at++;
            return numbers[at - 1];
        }

        boolean nextRow() {
            while (length > 0 && numbers[length - 1] + 1 >= ranges[length - 1]) {
                length--;
            }
            if (length > 0) {
                numbers[length - 1]++;
            }
            return length > 0;
        }

        /** Adds the share of this row. */
        void addRow() {
            long rowBelow = 1;
            for (int i = 0; i < length && rowBelow <= FINEST; i++) {
                rowBelow *= ranges[i];
            }
            tooFine = tooFine || rowBelow > FINEST;
            if (tooFine) {
                return;
            }
            long sum = above * rowBelow + below;
            long product = below * rowBelow;
            long divisor = commonDivisor(sum, product);
            above = divisor == 0 ? sum : sum / divisor;
            below = divisor == 0 ? product : product / divisor;
            tooFine = below > FINEST;
        }

        private static long commonDivisor(long one, long other) {
            long a = one;
            long b = other;
            for (int n = 0; n < 100 && b != 0; n++) {
                long remainder = a % b;
                a = b;
                b = remainder;
            }
            return a;
        }
    }

    /** A DOUBLE of a fun, its RULES and the CALLS it had; one whose id is below 0 does not stand. */
    private static final class Twin {
        int id = NONE;
        int parameters;
        int ruleCount;
        final int[] rules = new int[RULES * RULE_FIELDS];
        int callCount;
        final int[] arguments = new int[KEPT_CALLS * PARAMETERS];
        final int[] answeredBy = new int[KEPT_CALLS];
        private int parcel;
        private int fun;

        void begin(int id, int parcel, int fun, int parameters) {
            this.id = id;
            this.parcel = parcel;
            this.fun = fun;
            this.parameters = parameters;
            ruleCount = 0;
            callCount = 0;
        }

        boolean standsFor(int parcel, int fun) {
            return id >= 0 && this.parcel == parcel && this.fun == fun;
        }

        int addRule(int k, int v, boolean fails, int y) {
            int at = ruleCount * RULE_FIELDS;
            rules[at + RULE_ARGUMENT] = k;
            rules[at + RULE_NUMBER] = v;
            rules[at + RULE_FAILS] = fails ? 1 : 0;
            rules[at + RULE_ANSWER] = y;
            ruleCount++;
            return ruleCount;
        }

        /** The last RULE that fits the arguments that stand in a row from a place on, or NONE. */
        int fitting(int[] row, int from) {
            for (int r = ruleCount - 1; r >= 0; r--) {
                int k = rules[r * RULE_FIELDS + RULE_ARGUMENT];
                boolean fits = k < 0 || from + k < row.length && row[from + k] == rules[r * RULE_FIELDS + RULE_NUMBER];
                if (fits) {
                    return r;
                }
            }
            return NONE;
        }

        void note(int[] row, int from, int rule) {
            if (callCount < KEPT_CALLS) {
                answeredBy[callCount] = rule;
                for (int k = 0; k < parameters && k < PARAMETERS && from + k < row.length; k++) {
                    arguments[callCount * PARAMETERS + k] = row[from + k];
                }
            }
            callCount++;
        }
    }

    /** A HISTORY of a register, a counter or a queue; its ROW is looked for once after each OP. */
    private static final class History {
        final int[] row = new int[OPS];
        int size;
        private final int kind;
        private final int[][] ops = new int[OP_FIELDS][OPS];
        private final int[] queue = new int[OPS];
        private boolean looked;
        private boolean found;

        History(int kind) {
            this.kind = kind;
        }

        int add(int what, int v, int answer, int from, int to) {
            ops[OP_WHAT][size] = what;
            ops[OP_NUMBER][size] = v;
            ops[OP_ANSWER][size] = answer;
            ops[OP_FROM][size] = from;
            ops[OP_TO][size] = to;
            size++;
            looked = false;
            return size;
        }

        boolean isLinear() {
            if (!looked) {
                found = completes(0, 0, 0, 0, 0);
                looked = true;
            }
            return found;
        }

        /**
         * Whether the row, which has some OPS already (a bit each), can be completed; the least OP that leads on is
         * taken at each place. The value is that of a register or counter; a queue goes from a head to a tail.
         */
        private boolean completes(int length, int placed, int value, int head, int tail) {
            if (length >= size) {
                return true;
            }
            for (int i = 0; i < size; i++) {
                if ((placed >> i & 1) == 0 && mayBeNext(i, placed)) {
                    row[length] = i;
                    int more = placed | 1 << i;
                    if (completesBehind(i, more, value, head, tail)) {
                        return true;
                    }
                }
            }
            return false;
        }

        private boolean completesBehind(int i, int placed, int value, int head, int tail) {
            int length = Integer.bitCount(placed);
            int number = ops[OP_NUMBER][i];
            int answer = ops[OP_ANSWER][i];
            boolean gives = ops[OP_WHAT][i] == 0;
            if (kind == QUEUE && gives) {
                queue[tail] = number;
                return answer == 0 && completes(length, placed, value, head, tail + 1);
            }
            if (kind == QUEUE) {
                boolean empty = head >= tail;
                return answer == (empty ? -1 : queue[head]) && completes(length, placed, value, empty ? head : head + 1, tail);
            }
            int next = !gives ? value : kind == COUNTER ? value + number : number;
            int due = gives && kind == REGISTER ? 0 : next;
            return answer == due && completes(length, placed, next, head, tail);
        }

        private boolean mayBeNext(int i, int placed) {
            for (int j = 0; j < size; j++) {
                if ((placed >> j & 1) == 0 && ops[OP_TO][j] < ops[OP_FROM][i]) {
                    return false;
                }
            }
            return true;
        }
    }

    /** An old parcel with the units of a new one, and what its members that were replaced are linked to. */
    private static final class Build {
        final Parcel old;
        final Parcel fresh;
        // For each unit of the old parcel the new one in its place, or NONE.
        private final int[] replacements = new int[UNITS];
        // For each member of the old parcel: NONE of a unit that is left; a new member; less 0: what it fails by.
        private final int[] links;

        Build(Parcel old, Parcel fresh) {
            this.old = old;
            this.fresh = fresh;
            for (int u = 0; u < UNITS; u++) {
                replacements[u] = u < old.units.size() ? unitNamed(fresh, old.units.get(u).name) : NONE;
            }
            links = new int[old.members.size()];
            for (int m = 0; m < links.length; m++) {
                Part part = old.members.get(m);
                int unit = replacements[part.unit];
                links[m] = unit < 0 ? NONE : linkTo(fresh, unit, part);
            }
        }

        private static int unitNamed(Parcel parcel, long name) {
            for (int u = 0; u < parcel.units.size(); u++) {
                if (parcel.units.get(u).name == name) {
                    return u;
                }
            }
            return NONE;
        }

        private static int linkTo(Parcel fresh, int u, Part wanted) {
            Unit unit = fresh.units.get(u);
            for (int m = unit.firstMember; m < unit.endMember; m++) {
                Part part = fresh.members.get(m);
                if (part.name == wanted.name) {
                    boolean parameters = part.sort != SORT_FUN || part.number == wanted.number;
                    return part.sort != wanted.sort ? -BY_SORT : part.own ? -BY_OWN : parameters ? m : -BY_PARAMETERS;
                }
            }
            return -BY_NAME;
        }

        boolean isReplaced(int unit) {
            return unit >= 0 && unit < UNITS && replacements[unit] >= 0;
        }

        int linkOf(int member) {
            return member < 0 || member >= links.length ? NONE : links[member];
        }
    }
}
