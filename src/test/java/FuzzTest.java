import java.lang.reflect.InvocationTargetException;
import java.lang.reflect.Method;
import java.util.ArrayList;
import java.util.HashMap;
import java.util.List;
import java.util.Map;
import java.util.Random;
import java.util.regex.Matcher;
import java.util.regex.Pattern;

/** Calls by chance, the same ones each time, are answered by TestHouse as by the Model. */
public final class FuzzTest {
    private static final Map<String, Method> HOUSE = methods(TestHouse.class);
    private static final Map<String, Method> MODEL = methods(Model.class);
    private static final Map<String, Map<Integer, Integer>> SEEN = new java.util.TreeMap<>();

    private static Map<String, Method> methods(Class<?> c) {
        Map<String, Method> found = new HashMap<>();
        for (Method m : c.getDeclaredMethods()) {
            if (java.lang.reflect.Modifier.isPublic(m.getModifiers())) {
                found.put(m.getName(), m);
            }
        }
        return found;
    }

    private final TestHouse house = new TestHouse();
    private final Model model = new Model();
    private final List<String> log = new ArrayList<>();
    private final Random chance;
    private final int number;

    private FuzzTest(int number) {
        this.number = number;
        chance = new Random(number * 7919L + 17);
    }

    private int call(String name, Object... arguments) throws ReflectiveOperationException {
        log.add(name + java.util.Arrays.toString(arguments));
        int got;
        int want = (Integer) MODEL.get(name).invoke(model, arguments);
        try {
            got = (Integer) HOUSE.get(name).invoke(house, arguments);
        } catch (InvocationTargetException e) {
            System.out.println("run " + number + ": " + log.get(log.size() - 1) + " threw");
            e.getCause().printStackTrace(System.out);
            throw e;
        }
        SEEN.computeIfAbsent(name, k -> new java.util.TreeMap<>()).merge(Math.max(-6, Math.min(got, 6)), 1,
                Integer::sum);
        Checks.due("run " + number + ": " + log.get(log.size() - 1), got, want);
        if (got != want && System.getenv("FUZZ_LOG") != null) {
            log.forEach(System.out::println);
            System.exit(1);
        }
        return got;
    }

    private static final Pattern TOKEN = Pattern.compile("[a-z][a-z0-9]*|[0-9]+|<=|==|!=|.", Pattern.DOTALL);
    private static final String[] TOKENS = {"unit", "own", "const", "var", "shared", "row", "start", "fun", "before",
        "after", "test", "skip", "raises", "with", "prop", "let", "if", "else", "while", "return", "check", "raise",
        "try", "catch", "draw", "and", "or", "not", "{", "}", "(", ")", "[", "]", ",", ";", ".", "=", "+", "-", "*", "/",
        "%", "<", "<=", "==", "!=", "!", "0", "51", "50", "1234567890", "12a", "abcdefghi", "a", "x", "f", "A", "_", "\t",
        "it", " ", "\n", "\u00e9", ">"};

    /** A text in which some tokens are other ones. */
    private String spoilt(String text) {
        List<String> tokens = new ArrayList<>();
        Matcher m = TOKEN.matcher(text);
        while (m.find()) {
            tokens.add(m.group());
        }
        int many = 1 + chance.nextInt(2);
        for (int n = 0; n < many; n++) {
            int at = chance.nextInt(tokens.size());
            String token = chance.nextInt(2) == 0 ? tokens.get(chance.nextInt(tokens.size()))
                    : TOKENS[chance.nextInt(TOKENS.length)];
            switch (chance.nextInt(4)) {
                case 0:
                    tokens.remove(at);
                    break;
                case 1:
                    tokens.add(at, token);
                    break;
                case 2:
                    tokens.set(at, token);
                    break;
                default:
                    int other = chance.nextInt(tokens.size());
                    String kept = tokens.get(at);
                    tokens.set(at, tokens.get(other));
                    tokens.set(other, kept);
                    break;
            }
            if (tokens.isEmpty()) {
                return "";
            }
        }
        return String.join("", tokens);
    }

    private void feed(String text) throws ReflectiveOperationException {
        log.add(text);
        int all = (text.length() + 19) / 20 * 20;
        String padded = text + " ".repeat(all - text.length());
        for (int i = 0; i < all; i += 20) {
            Object[] five = new Object[5];
            for (int j = 0; j < 5; j++) {
                int n = 0;
                for (int k = 0; k < 4; k++) {
                    n = n << 8 | padded.charAt(i + 4 * j + k);
                }
                five[j] = n;
            }
            call("feed", five);
        }
        if (chance.nextInt(3) == 0) {
            call("cut", all - text.length());
        }
    }

    private int anyParcel() {
        int many = model.count(0, 0);
        return chance.nextInt(12) == 0 ? chance.nextInt(many + 4) - 2 : chance.nextInt(Math.max(1, many));
    }

    private int any(int many) {
        return chance.nextInt(12) == 0 ? chance.nextInt(many + 5) - 2 : chance.nextInt(Math.max(1, many));
    }

    private void parcels(int many) throws ReflectiveOperationException {
        for (int i = 0; i < many; i++) {
            Programs programs = new Programs(chance, 1000000);
            String text = programs.parcel(1 + chance.nextInt(3));
            boolean spoil = chance.nextInt(8) == 0;
            if (text.length() > 2900) {
                text = text.substring(0, 2900);
            }
            if (spoil) {
                text = spoilt(text);
            }
            if (text.length() > 2980) {
                continue;
            }
            feed(text);
            if (call("parcel") < 0) {
                call("fault");
                call("cut", call("feed", 1, 2, 3, 4, 5));
                emptied();
            }
            call("fault");
        }
    }

    private void tables(int p) throws ReflectiveOperationException {
        for (int what = -1; what <= 7; what++) {
            call("count", p, what);
        }
        for (int m = -1; m <= model.count(p, 2); m++) {
            for (int what = -1; what <= 5; what++) {
                call("member", p, m, what);
            }
        }
        for (int c = -1; c <= model.count(p, 4); c++) {
            for (int what = -1; what <= 5; what++) {
                call("about", p, c, what);
            }
        }
        for (int i = -1; i <= model.count(p, 3); i++) {
            for (int what = -1; what <= 2; what++) {
                call("code", p, i, what);
            }
        }
        for (int k = -1; k <= model.count(p, 6); k++) {
            for (int what = -1; what <= 2; what++) {
                call("mutant", p, k, what);
            }
        }
        for (int what = -1; what <= 4; what++) {
            for (int k = -1; k <= 4; k++) {
                for (int i = -1; i <= 8; i++) {
                    call("name", p, what, k, i);
                }
            }
        }
    }

    private void results(int p) throws ReflectiveOperationException {
        for (int c = 0; c < model.count(p, 4); c++) {
            for (int what = 0; what <= 3; what++) {
                call("verdict", p, c, what);
            }
        }
        for (int i = 0; i < model.count(p, 3); i++) {
            call("cover", p, i, 0);
            call("cover", p, i, 1);
        }
    }

    private void doubles() throws ReflectiveOperationException {
        for (int d = -1; d < 12; d++) {
            int many = call("calls", d, -1, chance.nextInt(3));
            for (int i = 0; i < Math.min(many, 4); i++) {
                for (int what = -2; what <= 4; what++) {
                    call("calls", d, i, what);
                }
            }
            call("calls", d, 49, -1);
            call("calls", d, 50, -1);
        }
    }

    private void oneCall() throws ReflectiveOperationException {
        int p = anyParcel();
        switch (chance.nextInt(28)) {
            case 0:
                call("steps", new int[] {chance.nextInt(1002), 1 + chance.nextInt(60), 200, 1000}[chance.nextInt(4)]);
                break;
            case 1:
                call("seed", chance.nextInt(3) == 0 ? chance.nextInt() : chance.nextInt(5));
                break;
            case 2:
                call("swap", p, any(model.count(p, 4)), any(model.count(p, 4)));
                break;
            case 3:
            case 4:
                call("run", p);
                if (chance.nextInt(2) == 0) {
                    results(p);
                    doubles();
                }
                break;
            case 5:
            case 6:
                call("alone", p, any(model.count(p, 4)));
                told();
                break;
            case 7:
            case 8:
                call("twin", p, any(model.count(p, 2)));
                break;
            case 9:
            case 10:
            case 11:
                call("rule", any(4), chance.nextInt(4) - 1, chance.nextInt(6), chance.nextInt(3) == 0,
                        chance.nextInt(12));
                break;
            case 12:
                if (chance.nextInt(3) == 0) {
                    call("drop", any(10));
                }
                break;
            case 13:
                doubles();
                break;
            case 14:
            case 15:
                kill(p);
                break;
            case 16:
            case 17:
                property(p);
                break;
            case 18:
                call("luck", p, any(model.count(p, 4)));
                call("share", 0);
                call("share", 1);
                call("share", chance.nextInt(4) - 1);
                break;
            case 19:
            case 20:
                call("blame", p, any(model.count(p, 4)));
                for (int i = -1; i < 4; i++) {
                    call("blamed", i);
                }
                break;
            case 21:
            case 22:
                call("build", p, anyParcel());
                break;
            case 23:
            case 24:
            case 25:
                builds();
                break;
            case 26:
                manyDoubles(p);
                break;
            default:
                call("verdict", p, any(16), any(4));
                call("cover", p, any(100), any(2));
                call("killed", p, any(30), any(5));
                call("least", p, chance.nextInt(6) - 2);
                break;
        }
    }

    /** Doubles of many funs, so that runs meet them. */
    private void manyDoubles(int p) throws ReflectiveOperationException {
        for (int m = 0; m < model.count(p, 2); m++) {
            if (model.member(p, m, 1) == 4 && chance.nextInt(2) == 0) {
                int d = call("twin", p, m);
                for (int n = chance.nextInt(4); n > 0; n--) {
                    call("rule", d, chance.nextInt(3) == 0 ? -1 : 0, chance.nextInt(6), chance.nextInt(3) == 0,
                            chance.nextInt(12));
                }
            }
        }
        call("run", p);
        results(p);
        doubles();
    }

    private void told() throws ReflectiveOperationException {
        for (int what = -1; what <= 4; what++) {
            call("told", what);
        }
    }

    private void kill(int p) throws ReflectiveOperationException {
        call("kill", p);
        for (int k = 0; k < model.count(p, 6); k++) {
            call("mutant", p, k, 2);
            for (int c = 0; c < model.count(p, 4); c++) {
                call("killed", p, k, c);
            }
        }
        for (int what = -2; what < 5; what++) {
            call("least", p, what);
        }
    }

    private void property(int p) throws ReflectiveOperationException {
        call("property", p, any(model.count(p, 5)), chance.nextInt(4) == 0 ? chance.nextInt(202) : 20);
        for (int what = -3; what <= 4; what++) {
            call("small", what);
        }
    }

    private void builds() throws ReflectiveOperationException {
        int b = any(3);
        for (int i = -1; i <= 150; i++) {
            call("foretold", b, i);
        }
        for (int c = -1; c < 8; c++) {
            call("touch", b, c);
            told();
            doubles();
        }
    }

    private void histories() throws ReflectiveOperationException {
        for (int n = 0; n < 9; n++) {
            int kind = chance.nextInt(4) == 3 ? chance.nextInt(6) - 1 : chance.nextInt(3);
            int h = call("history", kind);
            int many = chance.nextInt(7);
            int value = 0;
            for (int i = 0; i < many; i++) {
                int what = chance.nextInt(2);
                int v = chance.nextInt(4);
                int from = chance.nextInt(12);
                int to = from + chance.nextInt(8) - (chance.nextInt(30) == 0 ? 5 : 0);
                value += v;
                int answer = what == 0 ? kind == 1 ? value : 0 : chance.nextInt(3) == 0 ? -1 : chance.nextInt(4);
                call("op", h, chance.nextInt(40) == 0 ? 2 : what, v, answer, from, to);
                if (chance.nextInt(3) == 0) {
                    call("linear", h);
                }
            }
            call("linear", h);
            for (int i = -1; i <= many; i++) {
                call("place", h, i);
            }
        }
    }

    private void all() throws ReflectiveOperationException {
        parcels(1 + chance.nextInt(5));
        for (int p = 0; p < model.count(0, 0); p++) {
            tables(p);
        }
        for (int n = 0; n < 60; n++) {
            oneCall();
        }
        if (number % 4 == 0) {
            histories();
        }
        for (int n = 0; n < 10; n++) {
            int v = chance.nextInt(2) == 0 ? chance.nextInt(200) - 100 : chance.nextInt();
            call("smaller", v, chance.nextInt(36) - 2);
        }
    }

    /** Bytes by chance, and tokens by chance: only FAULTS are of interest. */
    private void noise() throws ReflectiveOperationException {
        for (int n = 0; n < 30; n++) {
            Programs programs = new Programs(chance, 30);
            String text = programs.parcel(1 + chance.nextInt(2));
            for (int k = chance.nextInt(3); k > 0; k--) {
                text = spoilt(text);
            }
            if (text.length() > 1000) {
                text = text.substring(0, 1000);
            }
            feed(text);
            call("parcel");
            call("fault");
            emptied();
        }
    }

    /** The next text stands alone, also behind a parcel() that was FULL. */
    private void emptied() throws ReflectiveOperationException {
        call("cut", call("cut", 0));
    }

    private static final int[] EXTREMES = {Integer.MIN_VALUE, Integer.MIN_VALUE + 1, -1000, -3, -2, -1, 0, 1, 2, 3, 7, 8, 49,
        50, 200, 201, 400, 999, 1000, 1001, 3000, 65536, Integer.MAX_VALUE - 1, Integer.MAX_VALUE};

    private int extreme() {
        return chance.nextInt(3) == 0 ? EXTREMES[chance.nextInt(EXTREMES.length)] : chance.nextInt(5) - 1;
    }

    /** Any call with any numbers, in any state. */
    private void wild() throws ReflectiveOperationException {
        if (number % 3 != 0) {
            parcels(3);
        }
        List<String> names = new ArrayList<>(new java.util.TreeSet<>(HOUSE.keySet()));
        for (int n = 0; n < 1500; n++) {
            Method m = HOUSE.get(names.get(chance.nextInt(names.size())));
            Object[] arguments = new Object[m.getParameterCount()];
            for (int i = 0; i < arguments.length; i++) {
                arguments[i] = m.getParameterTypes()[i] == boolean.class ? (Object) (chance.nextInt(2) == 0)
                        : (Object) extreme();
            }
            call(m.getName(), arguments);
        }
    }

    private void special() throws ReflectiveOperationException {
        Programs programs = new Programs(chance, 1000000);
        for (int n = 0; n < 20; n++) {
            feed(programs.limits());
            if (call("parcel") < 0) {
                emptied();
            }
            call("fault");
        }
        FuzzTest other = new FuzzTest(number);
        other.gamble();
    }

    private void gamble() throws ReflectiveOperationException {
        Programs programs = new Programs(chance, 1000000);
        boolean draws = number % 2 == 0;
        feed(draws ? programs.gamblers() : programs.spoilers());
        call("parcel");
        call("steps", chance.nextInt(3) == 0 ? 200 : 1000);
        for (int n = 0; n < 40; n++) {
            if (draws && chance.nextInt(2) == 0) {
                call("luck", 0, any(6));
                call("share", 0);
                call("share", 1);
            } else if (draws) {
                property(0);
                call("seed", chance.nextInt(50));
            } else if (chance.nextInt(3) == 0) {
                call("swap", 0, any(12), any(12));
            } else {
                call("blame", 0, any(12));
                for (int i = -1; i < 8; i++) {
                    call("blamed", i);
                }
            }
            if (chance.nextInt(10) == 0) {
                kill(0);
                call("run", 0);
                results(0);
            }
        }
    }

    public static void main(String[] args) throws ReflectiveOperationException {
        int from = args.length > 1 ? Integer.parseInt(args[1]) : 0;
        int to = args.length > 2 ? Integer.parseInt(args[2]) : 150;
        for (int n = from; n < to; n++) {
            FuzzTest one = new FuzzTest(n);
            if (n % 5 == 4) {
                one.noise();
            } else if (n % 5 == 3) {
                one.special();
            } else if (n % 5 == 2 && n % 2 == 0) {
                one.wild();
            } else {
                one.all();
            }
        }
        if (System.getenv("FUZZ_SEEN") != null) {
            SEEN.forEach((k, v) -> System.out.println(k + " " + v));
        }
        Checks.end("FuzzTest");
    }
}
