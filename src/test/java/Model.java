import java.math.BigInteger;
import java.nio.charset.StandardCharsets;
import java.util.ArrayDeque;
import java.util.ArrayList;
import java.util.Arrays;
import java.util.Collections;
import java.util.Deque;
import java.util.HashMap;
import java.util.HashSet;
import java.util.LinkedHashMap;
import java.util.List;
import java.util.Map;
import java.util.Set;
import java.util.TreeSet;
import java.util.regex.Matcher;
import java.util.regex.Pattern;

/**
 * The document once more, in another way and with the whole Java library: trees instead of a draft of code, calls of
 * Java instead of frames, exceptions instead of flags. FuzzTest holds TestHouse against it.
 */
public final class Model {
    static final int BAD = -1, NONE = -2, FULL = -3, SPENT = -4, FINE = -5;

    // ---------------------------------------------------------------- tokens

    static final class Fault extends RuntimeException {
        final int number;
        final int place;

        Fault(int number, int place) {
            super(null, null, false, false);
            this.number = number;
            this.place = place;
        }
    }

    record Token(char kind, String text, int at) {
        // kinds: N name, # number, w word, s sign, e end, ? none
        boolean is(String s) {
            return (kind == 'w' || kind == 's') && text.equals(s);
        }
    }

    static final Set<String> WORDS = Set.of("unit", "own", "const", "var", "shared", "row", "start", "fun", "before",
            "after", "test", "skip", "raises", "with", "prop", "let", "if", "else", "while", "return", "check", "raise",
            "try", "catch", "draw", "and", "or", "not");
    static final Pattern TOKEN = Pattern.compile("([a-z][a-z0-9]*)|([0-9]+)([a-z]?)|(<=|==|!=|[{}()\\[\\],;.=+\\-*/%<])",
            Pattern.DOTALL);

    static List<Token> tokens(String tape) {
        List<Token> found = new ArrayList<>();
        int at = 0;
        while (true) {
            while (at < tape.length() && "\n\r ".indexOf(tape.charAt(at)) >= 0) {
                at++;
            }
            if (at == tape.length()) {
                found.add(new Token('e', "", at));
                return found;
            }
            Matcher m = TOKEN.matcher(tape).region(at, tape.length());
            if (!m.lookingAt()) {
                found.add(new Token('?', "", at));
                return found;
            }
            if (m.group(1) != null) {
                String s = m.group(1);
                found.add(new Token(s.length() > 8 ? '?' : WORDS.contains(s) ? 'w' : 'N', s, at));
            } else if (m.group(2) != null) {
                boolean bad = m.group(2).length() > 9 || !m.group(3).isEmpty();
                found.add(new Token(bad ? '?' : '#', m.group(2), at));
            } else {
                found.add(new Token('s', m.group(4), at));
            }
            at = m.end();
        }
    }

    // ---------------------------------------------------------------- trees

    static final class Node {
        final String kind;
        String unit;
        int unitAt;
        String name;
        int nameAt;
        int value;
        final List<Node> parts = new ArrayList<>();
        List<Node> block;
        List<Node> second;

        Node(String kind, Node... parts) {
            this.kind = kind;
            this.parts.addAll(Arrays.asList(parts));
        }
    }

    static int size(List<Node> block) {
        int n = 0;
        for (Node s : block) {
            n += size(s);
        }
        return n;
    }

    static int size(Node n) {
        int sum = 0;
        for (Node p : n.parts) {
            sum += size(p);
        }
        switch (n.kind) {
            case "if":
                return sum + 1 + size(n.block) + (n.second == null ? 0 : 1 + size(n.second));
            case "while":
                return sum + 2 + size(n.block);
            case "try":
                return 4 + size(n.block) + size(n.second);
            case "callstatement":
                return sum + 1;
            default:
                return sum + 1;
        }
    }

    static final class Body {
        String sort;
        int unit;
        List<String> parameters = new ArrayList<>();
        List<Node> block;
        int first = NONE;
        int end;
    }

    static final class Member {
        String name;
        int unit;
        int sort;
        boolean own;
        int number;
        Body body;
    }

    static final class Case {
        String name;
        int unit;
        int number;
        int raises;
        boolean skip;
        Body body;
    }

    static final class UnitTree {
        String name;
        Body start;
        List<Body> befores = new ArrayList<>();
        List<Body> afters = new ArrayList<>();
    }

    static final class Code {
        int op;
        int arg;
        Body body;
    }

    static final class Parcel {
        int id;
        List<UnitTree> units = new ArrayList<>();
        List<Member> members = new ArrayList<>();
        List<Case> cases = new ArrayList<>();
        List<Member> props = new ArrayList<>();
        List<Body> bodies = new ArrayList<>();
        List<Code> codes = new ArrayList<>();
        List<Integer> mutants = new ArrayList<>();
        List<Integer> order = new ArrayList<>();
        Map<Integer, Told> ran;
        int[] begun;
        int[] begunIn;
        List<Set<Integer>> kills;

        int unit(String name) {
            for (int i = 0; i < units.size(); i++) {
                if (units.get(i).name.equals(name)) {
                    return i;
                }
            }
            return -1;
        }

        int member(int unit, String name) {
            for (int i = 0; i < members.size(); i++) {
                if (members.get(i).unit == unit && members.get(i).name.equals(name)) {
                    return i;
                }
            }
            return -1;
        }
    }

    // ---------------------------------------------------------------- reading

    static final class Reader {
        final List<Token> tokens;
        int i;
        int deep;
        final Parcel p = new Parcel();
        List<String> locals = new ArrayList<>();
        int total;

        Reader(String tape) {
            tokens = tokens(tape);
        }

        Token now() {
            return tokens.get(i);
        }

        RuntimeException wrong(int number) {
            return new Fault(now().kind == '?' ? 1 : number, now().at);
        }

        boolean at(String s) {
            return now().is(s);
        }

        boolean take(String s) {
            if (at(s)) {
                i++;
                return true;
            }
            return false;
        }

        void need(String s) {
            if (!take(s)) {
                throw wrong(2);
            }
        }

        String newName(java.util.function.Predicate<String> told, boolean many) {
            if (now().kind != 'N') {
                throw wrong(2);
            }
            if (told.test(now().text)) {
                throw wrong(3);
            }
            if (many) {
                throw wrong(6);
            }
            return tokens.get(i++).text;
        }

        int number() {
            if (now().kind != '#') {
                throw wrong(2);
            }
            return Integer.parseInt(tokens.get(i++).text);
        }

        int signed() {
            return take("-") ? -number() : number();
        }

        void into() {
            if (deep == 20) {
                throw wrong(6);
            }
            deep++;
        }

        Parcel parcel() {
            do {
                unit();
            } while (at("unit"));
            if (now().kind != 'e') {
                throw wrong(2);
            }
            return p;
        }

        void unit() {
            need("unit");
            UnitTree u = new UnitTree();
            u.name = newName(s -> p.unit(s) >= 0, p.units.size() == 8);
            p.units.add(u);
            int here = p.units.size() - 1;
            Set<String> names = new HashSet<>();
            int plain = 0;
            need("{");
            while (!take("}")) {
                boolean own = take("own");
                if (at("const") || at("var") || at("shared") || at("row") || at("fun")) {
                    Member m = new Member();
                    m.sort = List.of("const", "var", "shared", "row", "fun").indexOf(tokens.get(i++).text);
                    m.own = own;
                    m.unit = here;
                    m.name = newName(names::contains, plain == 12);
                    plain++;
                    names.add(m.name);
                    p.members.add(m);
                    value(m, here);
                } else if (own) {
                    throw wrong(2);
                } else if (at("start")) {
                    if (u.start != null) {
                        throw wrong(6);
                    }
                    i++;
                    u.start = body("start", here, List.of());
                } else if (at("before") || at("after")) {
                    List<Body> list = at("before") ? u.befores : u.afters;
                    if (list.size() == 3) {
                        throw wrong(6);
                    }
                    i++;
                    list.add(body("around", here, List.of()));
                } else if (take("test")) {
                    test(here, names);
                } else if (take("prop")) {
                    Member m = new Member();
                    m.unit = here;
                    m.name = newName(names::contains, p.props.size() == 6);
                    names.add(m.name);
                    p.props.add(m);
                    need("(");
                    List<String> parameters = parameters();
                    need(")");
                    m.number = parameters.size();
                    m.body = body("prop", here, parameters);
                } else {
                    throw wrong(2);
                }
            }
        }

        void value(Member m, int here) {
            if (m.sort <= 2) {
                need("=");
                m.number = signed();
                need(";");
            } else if (m.sort == 3) {
                need("[");
                if (now().kind == '#') {
                    int n = Integer.parseInt(now().text);
                    if (n < 1 || n > 50) {
                        throw wrong(5);
                    }
                }
                m.number = number();
                need("]");
                need(";");
            } else {
                need("(");
                List<String> parameters = at(")") ? List.of() : parameters();
                need(")");
                m.number = parameters.size();
                m.body = body("fun", here, parameters);
            }
        }

        List<String> parameters() {
            List<String> found = new ArrayList<>();
            do {
                found.add(newName(found::contains, found.size() == 4));
            } while (take(","));
            return found;
        }

        void test(int here, Set<String> names) {
            Case c = new Case();
            c.unit = here;
            c.name = newName(names::contains, p.cases.size() == 16);
            names.add(c.name);
            p.cases.add(c);
            c.skip = take("skip");
            if (take("raises")) {
                if (now().kind == '#' && Integer.parseInt(now().text) == 0) {
                    throw wrong(5);
                }
                c.raises = number();
            }
            List<Case> made = new ArrayList<>(List.of(c));
            if (take("with")) {
                c.number = signed();
                while (take(",")) {
                    if ((at("-") || now().kind == '#') && (made.size() == 4 || p.cases.size() == 16)) {
                        throw wrong(6);
                    }
                    Case more = new Case();
                    more.unit = here;
                    more.name = c.name;
                    more.skip = c.skip;
                    more.raises = c.raises;
                    more.number = signed();
                    made.add(more);
                    p.cases.add(more);
                }
            }
            Body b = body("test", here, List.of("it"));
            for (Case one : made) {
                one.body = b;
            }
        }

        Body body(String sort, int unit, List<String> parameters) {
            Body b = new Body();
            b.sort = sort;
            b.unit = unit;
            b.parameters = parameters;
            locals = new ArrayList<>(parameters);
            deep = 0;
            if (!at("{")) {
                throw wrong(2);
            }
            into();
            i++;
            b.block = statements();
            if (!at("}")) {
                throw wrong(2);
            }
            int n = size(b.block) + 2;
            total += n;
            if (n > 200 || total > 1000) {
                throw wrong(6);
            }
            i++;
            p.bodies.add(b);
            return b;
        }

        List<Node> statements() {
            List<Node> found = new ArrayList<>();
            while (!at("}")) {
                found.add(statement());
            }
            return found;
        }

        List<Node> block() {
            if (!at("{")) {
                throw wrong(2);
            }
            into();
            i++;
            int seen = locals.size();
            List<Node> found = statements();
            need("}");
            locals = new ArrayList<>(locals.subList(0, seen));
            deep--;
            return found;
        }

        Node statement() {
            if (take("let")) {
                Node n = new Node("let");
                n.name = newName(locals::contains, locals.size() == 10);
                need("=");
                n.parts.add(expr());
                need(";");
                locals.add(n.name);
                return n;
            }
            if (now().kind == 'N') {
                Node target = place();
                if (target.kind.equals("call")) {
                    need(";");
                    return new Node("callstatement", target);
                }
                need("=");
                Node n = new Node("set", target.parts.toArray(new Node[0]));
                n.unit = target.unit;
                n.unitAt = target.unitAt;
                n.name = target.name;
                n.nameAt = target.nameAt;
                n.value = target.kind.equals("row") ? 1 : 0;
                n.parts.add(expr());
                need(";");
                return n;
            }
            if (take("if")) {
                Node n = new Node("if", expr());
                n.block = block();
                if (take("else")) {
                    n.second = block();
                }
                return n;
            }
            if (take("while")) {
                Node n = new Node("while", expr());
                n.block = block();
                return n;
            }
            for (String word : List.of("return", "check", "raise")) {
                if (take(word)) {
                    Node n = new Node(word, expr());
                    need(";");
                    return n;
                }
            }
            if (take("try")) {
                Node n = new Node("try");
                n.block = block();
                need("catch");
                n.name = newName(locals::contains, locals.size() == 10);
                locals.add(n.name);
                n.second = block();
                locals.remove(locals.size() - 1);
                return n;
            }
            throw wrong(2);
        }

        Node place() {
            Node n = new Node("plain");
            n.name = now().text;
            n.nameAt = now().at;
            i++;
            if (take(".")) {
                n.unit = n.name;
                n.unitAt = n.nameAt;
                if (now().kind != 'N') {
                    throw wrong(2);
                }
                n.name = now().text;
                n.nameAt = now().at;
                i++;
            }
            if (at("(")) {
                into();
                i++;
                Node call = same("call", n);
                if (!at(")")) {
                    do {
                        call.parts.add(expr());
                    } while (take(","));
                }
                need(")");
                deep--;
                return call;
            }
            if (at("[")) {
                into();
                i++;
                Node row = same("row", n);
                row.parts.add(expr());
                need("]");
                deep--;
                return row;
            }
            return n;
        }

        Node same(String kind, Node n) {
            Node made = new Node(kind);
            made.unit = n.unit;
            made.unitAt = n.unitAt;
            made.name = n.name;
            made.nameAt = n.nameAt;
            return made;
        }

        Node expr() {
            Node left = both();
            while (take("or")) {
                left = new Node("or", left, both());
            }
            return left;
        }

        Node both() {
            Node left = denied();
            while (take("and")) {
                left = new Node("and", left, denied());
            }
            return left;
        }

        Node denied() {
            if (at("not")) {
                into();
                i++;
                Node n = new Node("not", denied());
                deep--;
                return n;
            }
            Node left = sum();
            for (String sign : List.of("<", "<=", "==", "!=")) {
                if (take(sign)) {
                    return new Node(sign, left, sum());
                }
            }
            return left;
        }

        Node sum() {
            Node left = product();
            while (at("+") || at("-")) {
                left = new Node(tokens.get(i++).text, left, product());
            }
            return left;
        }

        Node product() {
            Node left = factor();
            while (at("*") || at("/") || at("%")) {
                left = new Node(tokens.get(i++).text, left, factor());
            }
            return left;
        }

        Node factor() {
            if (now().kind == '#') {
                Node n = new Node("number");
                n.value = number();
                return n;
            }
            if (now().kind == 'N') {
                return place();
            }
            if (at("-") || at("draw")) {
                String kind = at("-") ? "neg" : "draw";
                into();
                i++;
                Node n = new Node(kind, factor());
                deep--;
                return n;
            }
            if (at("(")) {
                into();
                i++;
                Node n = expr();
                need(")");
                deep--;
                return n;
            }
            throw wrong(2);
        }
    }

    // ---------------------------------------------------------------- codes

    static final List<String> OPS = List.of("PUSH", "LOAD", "STORE", "GET", "PUT", "ROWGET", "ROWPUT", "CALL", "RETURN",
            "POP", "ADD", "SUB", "MUL", "DIV", "MOD", "LT", "LE", "EQ", "NE", "AND", "OR", "NOT", "NEG", "DRAW",
            "JUMPZ", "JUMP", "TRY", "ENDTRY", "CHECK", "RAISE", "KEEP", "JUMPN", "GONE", "POP2", "ZERO");
    static final Map<String, String> BINARY = Map.ofEntries(Map.entry("+", "ADD"), Map.entry("-", "SUB"),
            Map.entry("*", "MUL"), Map.entry("/", "DIV"), Map.entry("%", "MOD"), Map.entry("<", "LT"),
            Map.entry("<=", "LE"), Map.entry("==", "EQ"), Map.entry("!=", "NE"), Map.entry("and", "AND"),
            Map.entry("or", "OR"), Map.entry("not", "NOT"), Map.entry("neg", "NEG"), Map.entry("draw", "DRAW"),
            Map.entry("return", "RETURN"), Map.entry("check", "CHECK"), Map.entry("raise", "RAISE"));
    static final Map<String, String> ALTERED = Map.ofEntries(Map.entry("PUSH", "PUSH"), Map.entry("ADD", "SUB"),
            Map.entry("SUB", "ADD"), Map.entry("MUL", "DIV"), Map.entry("DIV", "MUL"), Map.entry("MOD", "MUL"),
            Map.entry("LT", "LE"), Map.entry("LE", "LT"), Map.entry("EQ", "NE"), Map.entry("NE", "EQ"),
            Map.entry("AND", "OR"), Map.entry("OR", "AND"), Map.entry("NOT", "KEEP"), Map.entry("NEG", "KEEP"),
            Map.entry("JUMPZ", "JUMPN"), Map.entry("PUT", "POP"), Map.entry("CHECK", "POP"), Map.entry("RAISE", "POP"),
            Map.entry("ROWPUT", "POP2"), Map.entry("CALL", "GONE"), Map.entry("RETURN", "ZERO"));

    static final class Maker {
        final Parcel p;
        Body body;
        List<String> locals;

        Maker(Parcel p) {
            this.p = p;
        }

        void all() {
            for (Body b : p.bodies) {
                body = b;
                locals = new ArrayList<>(b.parameters);
                b.first = p.codes.size();
                block(b.block);
                add("PUSH", 0);
                add("RETURN", 0);
                b.end = p.codes.size();
                if (b.sort.equals("fun") || b.sort.equals("start")) {
                    for (int i = b.first; i < b.end; i++) {
                        if (ALTERED.containsKey(OPS.get(p.codes.get(i).op))) {
                            p.mutants.add(i);
                        }
                    }
                }
            }
        }

        Code add(String op, int arg) {
            Code c = new Code();
            c.op = OPS.indexOf(op);
            c.arg = arg;
            c.body = body;
            p.codes.add(c);
            return c;
        }

        void block(List<Node> block) {
            int seen = locals.size();
            for (Node n : block) {
                statement(n);
            }
            locals = new ArrayList<>(locals.subList(0, seen));
        }

        int here() {
            return p.codes.size();
        }

        void statement(Node n) {
            switch (n.kind) {
                case "let":
                    expr(n.parts.get(0));
                    add("STORE", locals.size());
                    locals.add(n.name);
                    break;
                case "callstatement":
                    expr(n.parts.get(0));
                    add("POP", 0);
                    break;
                case "set":
                    set(n);
                    break;
                case "if":
                    expr(n.parts.get(0));
                    Code jump = add("JUMPZ", 0);
                    block(n.block);
                    if (n.second != null) {
                        Code over = add("JUMP", 0);
                        jump.arg = here();
                        block(n.second);
                        over.arg = here();
                    } else {
                        jump.arg = here();
                    }
                    break;
                case "while":
                    int top = here();
                    expr(n.parts.get(0));
                    Code out = add("JUMPZ", 0);
                    block(n.block);
                    add("JUMP", top);
                    out.arg = here();
                    break;
                case "try":
                    Code tried = add("TRY", 0);
                    block(n.block);
                    add("ENDTRY", 0);
                    Code past = add("JUMP", 0);
                    tried.arg = here();
                    add("STORE", locals.size());
                    locals.add(n.name);
                    block(n.second);
                    locals.remove(locals.size() - 1);
                    past.arg = here();
                    break;
                default:
                    expr(n.parts.get(0));
                    add(BINARY.get(n.kind), 0);
                    break;
            }
        }

        void set(Node n) {
            if (n.value == 1) {
                int m = member(n, m1 -> m1.sort == 3);
                expr(n.parts.get(0));
                expr(n.parts.get(1));
                add("ROWPUT", m);
            } else if (n.unit == null && locals.contains(n.name)) {
                expr(n.parts.get(0));
                add("STORE", locals.indexOf(n.name));
            } else {
                int m = member(n, m1 -> m1.sort == 1 || m1.sort == 2);
                expr(n.parts.get(0));
                add("PUT", m);
            }
        }

        int member(Node n, java.util.function.Predicate<Member> fits) {
            int u = body.unit;
            if (n.unit != null) {
                u = p.unit(n.unit);
                if (u < 0) {
                    throw new Fault(4, n.unitAt);
                }
            }
            int m = p.member(u, n.name);
            if (m < 0 || p.members.get(m).own && u != body.unit || !fits.test(p.members.get(m))) {
                throw new Fault(4, n.nameAt);
            }
            return m;
        }

        void expr(Node n) {
            switch (n.kind) {
                case "number":
                    add("PUSH", n.value);
                    return;
                case "plain":
                    if (n.unit == null && locals.contains(n.name)) {
                        add("LOAD", locals.indexOf(n.name));
                        return;
                    }
                    int m = member(n, m1 -> m1.sort <= 2);
                    if (p.members.get(m).sort == 0) {
                        add("PUSH", p.members.get(m).number);
                    } else {
                        add("GET", m);
                    }
                    return;
                case "row":
                    int r = member(n, m1 -> m1.sort == 3);
                    expr(n.parts.get(0));
                    add("ROWGET", r);
                    return;
                case "call":
                    int f = member(n, m1 -> m1.sort == 4 && m1.number == n.parts.size());
                    for (Node part : n.parts) {
                        expr(part);
                    }
                    add("CALL", f);
                    return;
                default:
                    for (Node part : n.parts) {
                        expr(part);
                    }
                    add(BINARY.get(n.kind), 0);
                    return;
            }
        }
    }

    // ---------------------------------------------------------------- runs

    static final class Fail extends RuntimeException {
        final int number;
        final boolean hard;
        final int where;

        Fail(int number, boolean hard, int where) {
            super(null, null, false, false);
            this.number = number;
            this.hard = hard;
            this.where = where;
        }
    }

    static final class Over extends RuntimeException {
        final int where;

        Over(int where) {
            super(null, null, false, false);
            this.where = where;
        }
    }

    static final class Spent extends RuntimeException {
        Spent() {
            super(null, null, false, false);
        }
    }

    static final class Told {
        int verdict = 5;
        int failure;
        int where = NONE;
        int steps;
        int draws;
    }

    record Rule(int k, int v, boolean fails, int y) {
    }

    record HadCall(int[] arguments, int rule) {
    }

    static final class Twin {
        int parcel;
        int member;
        int parameters;
        List<Rule> rules = new ArrayList<>();
        List<HadCall> calls = new ArrayList<>();
    }

    static final class Build {
        Parcel old;
        Parcel fresh;

        boolean replaced(int unit) {
            return fresh.unit(old.units.get(unit).name) >= 0;
        }

        // 0: nothing is looked up; 10 .. 13; 100 and a member of the new one.
        int look(int m) {
            Member was = old.members.get(m);
            if (!replaced(was.unit)) {
                return 0;
            }
            int found = fresh.member(fresh.unit(old.units.get(was.unit).name), was.name);
            if (found < 0) {
                return 10;
            }
            Member is = fresh.members.get(found);
            if (is.sort != was.sort) {
                return 11;
            }
            if (is.own) {
                return 12;
            }
            return is.sort == 4 && is.number != was.number ? 13 : 100 + found;
        }
    }

    /** One run, of any CASES. */
    final class Runner {
        final Parcel[] sides;
        final Build build;
        final Map<String, Integer> sharedValues = new HashMap<>();
        Map<String, Integer> values;
        Map<String, int[]> rows;
        Map<String, Boolean> begun;
        boolean watched;
        boolean covered;
        Set<Integer> begunNow;
        int altered = -1;
        int x;
        List<Integer> chosen;
        List<Integer> ranges;
        Told told;

        Runner(Parcel p) {
            this(new Parcel[] {p}, null);
        }

        Runner(Parcel[] sides, Build build) {
            this.sides = sides;
            this.build = build;
            for (int s = 0; s < sides.length; s++) {
                for (int m = 0; m < sides[s].members.size(); m++) {
                    if (sides[s].members.get(m).sort == 2) {
                        sharedValues.put(s + "/" + m, sides[s].members.get(m).number);
                    }
                }
            }
        }

        void state() {
            values = new HashMap<>();
            rows = new HashMap<>();
            begun = new HashMap<>();
            begunNow = new HashSet<>();
            x = seed;
            told = new Told();
            ranges = new ArrayList<>();
        }

        Told live(Case c) {
            state();
            if (c.skip) {
                return told;
            }
            try {
                life(c);
            } catch (Over over) {
                if (told.verdict == 5) {
                    // It arose in a before or in the test.
                    verdictOfOver(over);
                    if (inTest && c.raises == 6) {
                        told.verdict = 1;
                        told.failure = 0;
                        told.where = NONE;
                    }
                } else if (told.verdict == 1) {
                    told.verdict = 4;
                    told.failure = 6;
                    told.where = over.where;
                }
            }
            return told;
        }

        boolean inTest;

        void verdictOfOver(Over over) {
            told.verdict = inTest ? 2 : 3;
            told.failure = 6;
            told.where = over.where;
        }

        void life(Case c) {
            UnitTree u = sides[0].units.get(c.unit);
            inTest = false;
            boolean well = true;
            for (Body b : u.befores) {
                try {
                    run(0, b, new int[0], 1);
                } catch (Fail f) {
                    told.verdict = 3;
                    told.failure = f.number;
                    told.where = f.where;
                    well = false;
                    break;
                }
            }
            if (well) {
                inTest = true;
                try {
                    run(0, c.body, new int[] {c.number}, 1);
                    if (c.raises == 0) {
                        told.verdict = 1;
                    } else {
                        told.verdict = 2;
                        told.failure = 4;
                    }
                } catch (Fail f) {
                    if (c.raises != 0 && f.number == c.raises) {
                        told.verdict = 1;
                    } else {
                        told.verdict = 2;
                        told.failure = f.number;
                        told.where = f.where;
                    }
                }
            }
            List<Body> afters = new ArrayList<>(u.afters);
            Collections.reverse(afters);
            for (Body b : afters) {
                try {
                    run(0, b, new int[0], 1);
                } catch (Fail f) {
                    if (told.verdict == 1) {
                        told.verdict = 4;
                        told.failure = f.number;
                        told.where = f.where;
                    }
                }
            }
        }

        int run(int side, Body body, int[] arguments, int open) {
            int[] locals = Arrays.copyOf(arguments, 16);
            Deque<Integer> stack = new ArrayDeque<>();
            Deque<Integer> handlers = new ArrayDeque<>();
            int at = body.first;
            while (true) {
                int where = at + 1000 * side;
                if (told.steps == stepLimit) {
                    throw new Over(where);
                }
                if (work == 0) {
                    throw new Spent();
                }
                work--;
                told.steps++;
                if (covered) {
                    sides[0].begun[at]++;
                    if (begunNow.add(at)) {
                        sides[0].begunIn[at]++;
                    }
                }
                Code code = sides[side].codes.get(at);
                String op = OPS.get(code.op);
                int arg = code.arg;
                if (side == 0 && at == altered) {
                    arg += op.equals("PUSH") ? 1 : 0;
                    op = ALTERED.get(op);
                }
                at++;
                try {
                    switch (op) {
                        case "RETURN":
                            return stack.pop();
                        case "ZERO":
                            return 0;
                        case "JUMP":
                            at = arg;
                            break;
                        case "JUMPZ":
                            at = stack.pop() == 0 ? arg : at;
                            break;
                        case "JUMPN":
                            at = stack.pop() != 0 ? arg : at;
                            break;
                        case "TRY":
                            handlers.push(arg);
                            break;
                        case "ENDTRY":
                            handlers.pop();
                            break;
                        case "LOAD":
                            stack.push(locals[arg]);
                            break;
                        case "STORE":
                            locals[arg] = stack.pop();
                            break;
                        case "GET":
                        case "PUT":
                        case "ROWGET":
                        case "ROWPUT":
                        case "CALL":
                            use(op, side, arg, stack, where, open);
                            break;
                        case "GONE":
                            for (int n = sides[side].members.get(arg).number; n > 0; n--) {
                                stack.pop();
                            }
                            stack.push(0);
                            break;
                        default:
                            plain(op, arg, stack, where);
                            break;
                    }
                } catch (Fail f) {
                    if (f.hard || handlers.isEmpty()) {
                        throw f;
                    }
                    at = handlers.pop();
                    stack.clear();
                    stack.push(f.number);
                }
            }
        }

        void plain(String op, int arg, Deque<Integer> stack, int where) {
            if (op.equals("PUSH")) {
                stack.push(arg);
                return;
            }
            if (op.equals("KEEP")) {
                return;
            }
            int b = stack.pop();
            switch (op) {
                case "POP":
                    return;
                case "POP2":
                    stack.pop();
                    return;
                case "CHECK":
                    if (b == 0) {
                        throw new Fail(5, false, where);
                    }
                    return;
                case "RAISE":
                    throw new Fail(b, false, where);
                case "NOT":
                    stack.push(b == 0 ? 1 : 0);
                    return;
                case "NEG":
                    stack.push(-b);
                    return;
                case "DRAW":
                    if (b < 1) {
                        throw new Fail(3, false, where);
                    }
                    stack.push(drawn(b));
                    return;
                default:
                    break;
            }
            int a = stack.pop();
            if (b == 0 && (op.equals("DIV") || op.equals("MOD"))) {
                throw new Fail(1, false, where);
            }
            long value = switch (op) {
                case "ADD" -> (long) a + b;
                case "SUB" -> (long) a - b;
                case "MUL" -> (long) a * b;
                case "DIV" -> (long) a / b;
                case "MOD" -> (long) a % b;
                case "LT" -> a < b ? 1 : 0;
                case "LE" -> a <= b ? 1 : 0;
                case "EQ" -> a == b ? 1 : 0;
                case "NE" -> a != b ? 1 : 0;
                case "AND" -> a != 0 && b != 0 ? 1 : 0;
                case "OR" -> a != 0 || b != 0 ? 1 : 0;
                default -> throw new IllegalStateException(op);
            };
            stack.push((int) value);
        }

        int drawn(int n) {
            told.draws++;
            if (chosen == null) {
                x = x * 1103515245 + 12345;
                return (x >>> 16) % n;
            }
            ranges.add(n);
            return ranges.size() <= chosen.size() ? chosen.get(ranges.size() - 1) : 0;
        }

        void use(String op, int from, int m, Deque<Integer> stack, int where, int open) {
            int side = from;
            if (build != null && side == 0) {
                int look = build.look(m);
                if (look >= 100) {
                    side = 1;
                    m = look - 100;
                } else if (look != 0) {
                    throw new Fail(look, false, where);
                }
            }
            Member member = sides[side].members.get(m);
            seeTo(side, member.unit, where, open);
            String key = side + "/" + m;
            Map<String, Integer> store = member.sort == 2 ? sharedValues : values;
            switch (op) {
                case "GET":
                    stack.push(store.get(key));
                    break;
                case "PUT":
                    store.put(key, stack.pop());
                    break;
                case "CALL":
                    call(side, m, stack, where, open);
                    break;
                default:
                    int value = op.equals("ROWPUT") ? stack.pop() : 0;
                    int index = stack.pop();
                    int[] row = rows.get(key);
                    if (index < 0 || index >= row.length) {
                        throw new Fail(2, false, where);
                    }
                    if (op.equals("ROWPUT")) {
                        row[index] = value;
                    } else {
                        stack.push(row[index]);
                    }
                    break;
            }
        }

        void call(int side, int m, Deque<Integer> stack, int where, int open) {
            Member fun = sides[side].members.get(m);
            int[] arguments = new int[fun.number];
            for (int k = fun.number - 1; k >= 0; k--) {
                arguments[k] = stack.pop();
            }
            for (Twin t : twins.values()) {
                if (t.parcel == sides[side].id && t.member == m) {
                    int fits = -1;
                    for (int r = 0; r < t.rules.size(); r++) {
                        Rule rule = t.rules.get(r);
                        if (rule.k == -1 || arguments[rule.k] == rule.v) {
                            fits = r;
                        }
                    }
                    if (watched) {
                        t.calls.add(new HadCall(arguments, fits < 0 ? NONE : fits));
                    }
                    if (fits >= 0) {
                        if (t.rules.get(fits).fails) {
                            throw new Fail(t.rules.get(fits).y, false, where);
                        }
                        stack.push(t.rules.get(fits).y);
                        return;
                    }
                }
            }
            if (open == 12) {
                throw new Fail(7, true, where);
            }
            stack.push(run(side, fun.body, arguments, open + 1));
        }

        void seeTo(int side, int u, int where, int open) {
            String key = side + "/" + u;
            Boolean how = begun.get(key);
            if (how != null) {
                if (!how) {
                    throw new Fail(9, false, where);
                }
                return;
            }
            begun.put(key, true);
            for (int m = 0; m < sides[side].members.size(); m++) {
                Member member = sides[side].members.get(m);
                if (member.unit == u && member.sort == 1) {
                    values.put(side + "/" + m, member.number);
                }
                if (member.unit == u && member.sort == 3) {
                    rows.put(side + "/" + m, new int[member.number]);
                }
            }
            Body start = sides[side].units.get(u).start;
            if (start == null) {
                return;
            }
            if (open == 12) {
                begun.put(key, false);
                throw new Fail(8, false, where);
            }
            try {
                run(side, start, new int[0], open + 1);
            } catch (Fail f) {
                begun.put(key, false);
                throw new Fail(8, false, where);
            }
        }
    }

    // ---------------------------------------------------------------- the house

    private final StringBuilder tape = new StringBuilder();
    private final List<Parcel> parcels = new ArrayList<>();
    private int lastFault;
    private int stepLimit = 200;
    private int seed = 1;
    private int work;
    private final Map<Integer, Twin> twins = new LinkedHashMap<>();
    private int twinsMade;
    private Told lastTold;
    private final List<Build> builds = new ArrayList<>();
    private int[] smallNumbers;
    private int smallFailure;
    private int smallTimes;
    private BigInteger[] lastShare;
    private List<Integer> lastBlamed;
    private final List<Integer> kinds = new ArrayList<>();
    private final List<List<int[]>> histories = new ArrayList<>();

    private static boolean in(int i, List<?> list) {
        return i >= 0 && i < list.size();
    }

    private Parcel get(int p) {
        return in(p, parcels) ? parcels.get(p) : null;
    }

    public int feed(int a, int b, int c, int d, int e) {
        if (tape.length() + 20 > 3000) {
            return FULL;
        }
        java.nio.ByteBuffer out = java.nio.ByteBuffer.allocate(20);
        out.putInt(a).putInt(b).putInt(c).putInt(d).putInt(e);
        tape.append(new String(out.array(), StandardCharsets.ISO_8859_1));
        return tape.length();
    }

    public int cut(int n) {
        if (n < 0 || n > tape.length()) {
            return BAD;
        }
        tape.setLength(tape.length() - n);
        return tape.length();
    }

    public int parcel() {
        if (parcels.size() == 8) {
            return FULL;
        }
        String text = tape.toString();
        tape.setLength(0);
        try {
            Parcel p = new Reader(text).parcel();
            new Maker(p).all();
            p.id = parcels.size();
            for (int c = 0; c < p.cases.size(); c++) {
                p.order.add(c);
            }
            parcels.add(p);
            lastFault = 0;
            return p.id;
        } catch (Fault f) {
            lastFault = f.number;
            return -10 - f.place;
        }
    }

    public int fault() {
        return lastFault;
    }

    public int count(int p, int what) {
        if (what == 0) {
            return parcels.size();
        }
        Parcel a = get(p);
        if (a == null || what < 0 || what > 6) {
            return BAD;
        }
        return List.of(a.units, a.members, a.codes, a.cases, a.props, a.mutants).get(what - 1).size();
    }

    public int member(int p, int m, int what) {
        Parcel a = get(p);
        if (a == null || !in(m, a.members) || what < 0 || what > 4) {
            return BAD;
        }
        Member x = a.members.get(m);
        return new int[] {x.unit, x.sort, x.own ? 1 : 0, x.number, x.body == null ? NONE : x.body.first}[what];
    }

    public int about(int p, int c, int what) {
        Parcel a = get(p);
        if (a == null || !in(c, a.cases) || what < 0 || what > 4) {
            return BAD;
        }
        Case x = a.cases.get(c);
        return new int[] {x.unit, x.number, x.raises, x.skip ? 1 : 0, x.body.first}[what];
    }

    public int name(int p, int what, int k, int i) {
        Parcel a = get(p);
        if (a == null || what < 0 || what > 3) {
            return BAD;
        }
        List<String> names = new ArrayList<>();
        switch (what) {
            case 0:
                a.units.forEach(u -> names.add(u.name));
                break;
            case 1:
                a.members.forEach(u -> names.add(u.name));
                break;
            case 2:
                a.cases.forEach(u -> names.add(u.name));
                break;
            default:
                a.props.forEach(u -> names.add(u.name));
                break;
        }
        return !in(k, names) || i < 0 || i >= names.get(k).length() ? BAD : names.get(k).charAt(i);
    }

    public int code(int p, int i, int what) {
        Parcel a = get(p);
        if (a == null || !in(i, a.codes) || what < 0 || what > 1) {
            return BAD;
        }
        return what == 0 ? a.codes.get(i).op : a.codes.get(i).arg;
    }

    public int steps(int n) {
        if (n < 1 || n > 1000) {
            return BAD;
        }
        int was = stepLimit;
        stepLimit = n;
        return was;
    }

    public int seed(int x) {
        int was = seed;
        seed = x;
        return was;
    }

    public int swap(int p, int i, int j) {
        Parcel a = get(p);
        if (a == null || !in(i, a.order) || !in(j, a.order)) {
            return BAD;
        }
        Collections.swap(a.order, i, j);
        return a.order.get(i);
    }

    private Map<Integer, Told> runs(Runner r, Parcel p, List<Integer> row) {
        Map<Integer, Told> found = new HashMap<>();
        for (int c : row) {
            found.put(c, r.live(p.cases.get(c)));
        }
        return found;
    }

    private void watch() {
        twins.values().forEach(t -> t.calls.clear());
        work = -1;
    }

    public int run(int p) {
        Parcel a = get(p);
        if (a == null) {
            return BAD;
        }
        watch();
        a.begun = new int[a.codes.size()];
        a.begunIn = new int[a.codes.size()];
        Runner r = new Runner(a);
        r.watched = true;
        r.covered = true;
        a.ran = runs(r, a, a.order);
        return (int) a.ran.values().stream().filter(t -> t.verdict == 1).count();
    }

    public int verdict(int p, int c, int what) {
        Parcel a = get(p);
        if (a == null || !in(c, a.cases) || what < 0 || what > 3) {
            return BAD;
        }
        if (a.ran == null) {
            return NONE;
        }
        Told t = a.ran.get(c);
        return new int[] {t.verdict, t.failure, t.where, t.steps}[what];
    }

    public int cover(int p, int i, int what) {
        Parcel a = get(p);
        if (a == null || !in(i, a.codes) || what < 0 || what > 1) {
            return BAD;
        }
        return a.ran == null ? NONE : (what == 0 ? a.begun : a.begunIn)[i];
    }

    public int alone(int p, int c) {
        Parcel a = get(p);
        if (a == null || !in(c, a.cases)) {
            return BAD;
        }
        watch();
        Runner r = new Runner(a);
        r.watched = true;
        lastTold = r.live(a.cases.get(c));
        return lastTold.verdict;
    }

    public int told(int what) {
        if (lastTold == null || what < 0 || what > 3) {
            return BAD;
        }
        return new int[] {lastTold.failure, lastTold.where, lastTold.steps, lastTold.draws}[what];
    }

    public int twin(int p, int m) {
        Parcel a = get(p);
        if (a == null || !in(m, a.members) || a.members.get(m).sort != 4) {
            return BAD;
        }
        for (Twin t : twins.values()) {
            if (t.parcel == p && t.member == m) {
                return NONE;
            }
        }
        if (twins.size() == 8) {
            return FULL;
        }
        Twin t = new Twin();
        t.parcel = p;
        t.member = m;
        t.parameters = a.members.get(m).number;
        twins.put(twinsMade, t);
        return twinsMade++;
    }

    public int rule(int d, int k, int v, boolean fails, int y) {
        Twin t = twins.get(d);
        if (t == null || k < -1 || k >= t.parameters) {
            return BAD;
        }
        if (t.rules.size() == 8) {
            return FULL;
        }
        t.rules.add(new Rule(k, v, fails, y));
        return t.rules.size();
    }

    public int drop(int d) {
        Twin t = twins.remove(d);
        return t == null ? BAD : t.rules.size();
    }

    public int calls(int d, int i, int what) {
        Twin t = twins.get(d);
        if (t == null) {
            return BAD;
        }
        if (i == -1) {
            return t.calls.size();
        }
        if (!in(i, t.calls) || i >= 50 || what < -1 || what >= t.parameters) {
            return BAD;
        }
        HadCall had = t.calls.get(i);
        return what == -1 ? had.rule : had.arguments[what];
    }

    public int mutant(int p, int k, int what) {
        Parcel a = get(p);
        if (a == null || !in(k, a.mutants) || what < 0 || what > 2) {
            return BAD;
        }
        int i = a.mutants.get(k);
        if (what == 0) {
            return i;
        }
        if (what == 1) {
            return OPS.indexOf(ALTERED.get(OPS.get(a.codes.get(i).op)));
        }
        return a.kills == null ? NONE : a.kills.get(k).size();
    }

    public int kill(int p) {
        Parcel a = get(p);
        if (a == null) {
            return BAD;
        }
        work = 40000;
        List<Set<Integer>> kills = new ArrayList<>();
        try {
            for (int i : a.mutants) {
                Runner r = new Runner(a);
                r.altered = i;
                Map<Integer, Told> changed = runs(r, a, a.order);
                // The run without is made once; that its STEPS count once is seen to by giving them back.
                int before = work;
                work = -1;
                Map<Integer, Told> plain = runs(new Runner(a), a, a.order);
                work = before;
                Set<Integer> killers = new TreeSet<>();
                for (int c : a.order) {
                    Told x = changed.get(c);
                    Told y = plain.get(c);
                    if (x.verdict != y.verdict || x.failure != y.failure) {
                        killers.add(c);
                    }
                }
                kills.add(killers);
            }
            runs(new Runner(a), a, a.order);
        } catch (Spent s) {
            return SPENT;
        }
        a.kills = kills;
        return (int) kills.stream().filter(s -> !s.isEmpty()).count();
    }

    public int killed(int p, int k, int c) {
        Parcel a = get(p);
        if (a == null || !in(k, a.mutants) || !in(c, a.cases)) {
            return BAD;
        }
        return a.kills == null ? NONE : a.kills.get(k).contains(c) ? 1 : 0;
    }

    private static List<Integer> suite(List<Set<Integer>> kills, int cases, int size, int from, List<Integer> taken) {
        if (taken.size() == size) {
            boolean all = kills.stream().allMatch(s -> s.isEmpty() || taken.stream().anyMatch(s::contains));
            return all ? new ArrayList<>(taken) : null;
        }
        for (int c = from; c < cases; c++) {
            taken.add(c);
            List<Integer> found = suite(kills, cases, size, c + 1, taken);
            taken.remove(taken.size() - 1);
            if (found != null) {
                return found;
            }
        }
        return null;
    }

    public int least(int p, int what) {
        Parcel a = get(p);
        if (a == null || what < -1) {
            return BAD;
        }
        if (a.kills == null) {
            return NONE;
        }
        List<Integer> found = null;
        for (int size = 0; found == null; size++) {
            found = suite(a.kills, a.cases.size(), size, 0, new ArrayList<>());
        }
        return what == -1 ? found.size() : what < found.size() ? found.get(what) : BAD;
    }

    private Fail tryProp(Parcel a, Member prop, int[] numbers) {
        Runner r = new Runner(a);
        r.state();
        smallTimesNow++;
        try {
            r.run(0, prop.body, numbers, 1);
            return null;
        } catch (Fail f) {
            return f;
        } catch (Over o) {
            return new Fail(6, true, o.where);
        }
    }

    private int smallTimesNow;

    public int property(int p, int k, int n) {
        Parcel a = get(p);
        if (a == null || !in(k, a.props) || n < 1 || n > 200) {
            return BAD;
        }
        Member prop = a.props.get(k);
        work = 20000;
        smallTimesNow = 0;
        try {
            int y = seed;
            int[] numbers = new int[prop.number];
            Fail fail = null;
            for (int t = 0; t < n && fail == null; t++) {
                int s = Math.min(60, t);
                for (int j = 0; j < numbers.length; j++) {
                    y = y * 1103515245 + 12345;
                    numbers[j] = (y >>> 16) % (2 * s + 1) - s;
                }
                fail = tryProp(a, prop, numbers);
            }
            if (fail == null) {
                smallNumbers = new int[0];
                smallFailure = 0;
                smallTimes = smallTimesNow;
                return 1;
            }
            again:
            while (true) {
                for (int j = 0; j < numbers.length; j++) {
                    for (int v : smallers(numbers[j])) {
                        int[] other = numbers.clone();
                        other[j] = v;
                        Fail f = tryProp(a, prop, other);
                        if (f != null) {
                            fail = f;
                            numbers = other;
                            continue again;
                        }
                    }
                }
                break;
            }
            smallNumbers = numbers;
            smallFailure = fail.number;
            smallTimes = smallTimesNow;
            return 0;
        } catch (Spent s) {
            return SPENT;
        }
    }

    public int small(int what) {
        if (smallNumbers == null || what < -2 || what >= smallNumbers.length) {
            return BAD;
        }
        return what == -2 ? smallTimes : what == -1 ? smallFailure : smallNumbers[what];
    }

    private static List<Integer> smallers(int v) {
        List<Integer> found = new ArrayList<>();
        if (v == 0) {
            return found;
        }
        found.add(0);
        if (v < 0) {
            found.add(-v);
        }
        int taken = v / 2;
        while (taken != 0) {
            found.add(v - taken);
            taken /= 2;
        }
        return found;
    }

    public int smaller(int v, int i) {
        List<Integer> all = smallers(v);
        return in(i, all) ? all.get(i) : NONE;
    }

    public int history(int kind) {
        if (kind < 0 || kind > 2) {
            return BAD;
        }
        if (histories.size() == 8) {
            return FULL;
        }
        histories.add(new ArrayList<>());
        kinds.add(kind);
        return histories.size() - 1;
    }

    public int op(int h, int what, int v, int answer, int from, int to) {
        if (!in(h, histories) || what < 0 || what > 1 || from < 0 || from > 1000 || to < 0 || to > 1000 || from > to) {
            return BAD;
        }
        if (histories.get(h).size() == 8) {
            return FULL;
        }
        histories.get(h).add(new int[] {what, v, answer, from, to});
        return histories.get(h).size();
    }

    private List<Integer> firstRow(int h) {
        return complete(h, new ArrayList<>());
    }

    private List<Integer> complete(int h, List<Integer> row) {
        List<int[]> ops = histories.get(h);
        if (!allowed(kinds.get(h), ops, row)) {
            return null;
        }
        if (row.size() == ops.size()) {
            return row;
        }
        for (int i = 0; i < ops.size(); i++) {
            if (!row.contains(i)) {
                List<Integer> longer = new ArrayList<>(row);
                longer.add(i);
                List<Integer> found = complete(h, longer);
                if (found != null) {
                    return found;
                }
            }
        }
        return null;
    }

    private static boolean allowed(int kind, List<int[]> ops, List<Integer> row) {
        int value = 0;
        Deque<Integer> queue = new ArrayDeque<>();
        for (int i = 0; i < row.size(); i++) {
            int[] o = ops.get(row.get(i));
            for (int j = 0; j < i; j++) {
                if (o[4] < ops.get(row.get(j))[3]) {
                    return false;
                }
            }
            int answer;
            if (kind == 2) {
                if (o[0] == 0) {
                    queue.addLast(o[1]);
                    answer = 0;
                } else {
                    answer = queue.isEmpty() ? -1 : queue.removeFirst();
                }
            } else if (o[0] == 1) {
                answer = value;
            } else if (kind == 0) {
                value = o[1];
                answer = 0;
            } else {
                value += o[1];
                answer = value;
            }
            if (answer != o[2]) {
                return false;
            }
        }
        return true;
    }

    public int linear(int h) {
        return !in(h, histories) ? BAD : firstRow(h) == null ? 0 : 1;
    }

    public int place(int h, int i) {
        if (!in(h, histories) || !in(i, histories.get(h))) {
            return BAD;
        }
        List<Integer> row = firstRow(h);
        return row == null ? NONE : row.get(i);
    }

    private int rowsSeen;
    private boolean fine;
    private BigInteger[] sum;

    private void rows(Parcel a, Case c, List<Integer> prefix) {
        if (rowsSeen == 400) {
            throw new Spent();
        }
        Runner r = new Runner(a);
        r.chosen = prefix;
        Told t = r.live(c);
        List<Integer> ranges = r.ranges;
        rowsSeen++;
        if (t.verdict == 1 && !fine) {
            BigInteger below = BigInteger.ONE;
            for (int n : ranges) {
                below = below.multiply(BigInteger.valueOf(n));
            }
            BigInteger limit = BigInteger.valueOf(1000000000);
            fine = below.compareTo(limit) > 0;
            BigInteger above = sum[0].multiply(below).add(sum[1]);
            below = sum[1].multiply(below);
            BigInteger divisor = above.gcd(below);
            sum = new BigInteger[] {above.divide(divisor), below.divide(divisor)};
            fine |= sum[1].compareTo(limit) > 0;
        }
        for (int at = ranges.size() - 1; at >= prefix.size(); at--) {
            for (int v = 1; v < ranges.get(at); v++) {
                List<Integer> next = new ArrayList<>(prefix);
                while (next.size() < at) {
                    next.add(0);
                }
                next.add(v);
                rows(a, c, next);
            }
        }
    }

    public int luck(int p, int c) {
        Parcel a = get(p);
        if (a == null || !in(c, a.cases)) {
            return BAD;
        }
        work = 20000;
        rowsSeen = 0;
        fine = false;
        sum = new BigInteger[] {BigInteger.ZERO, BigInteger.ONE};
        try {
            rows(a, a.cases.get(c), new ArrayList<>());
        } catch (Spent s) {
            return SPENT;
        }
        if (fine) {
            return FINE;
        }
        lastShare = sum;
        return rowsSeen;
    }

    public int share(int what) {
        return lastShare == null || what < 0 || what > 1 ? BAD : lastShare[what].intValueExact();
    }

    private int verdictBehind(Parcel a, List<Integer> ahead, int c) {
        List<Integer> row = new ArrayList<>(ahead);
        row.add(c);
        return runs(new Runner(a), a, row).get(c).verdict;
    }

    public int blame(int p, int c) {
        Parcel a = get(p);
        if (a == null || !in(c, a.cases)) {
            return BAD;
        }
        if (a.cases.get(c).skip) {
            return NONE;
        }
        work = 20000;
        try {
            List<Integer> left = new ArrayList<>(a.order.subList(0, a.order.indexOf(c)));
            if (verdictBehind(a, left, c) == 1 || verdictBehind(a, List.of(), c) != 1) {
                return NONE;
            }
            boolean again = true;
            while (again) {
                again = false;
                for (int one : new ArrayList<>(left)) {
                    List<Integer> others = new ArrayList<>(left);
                    others.remove((Integer) one);
                    if (verdictBehind(a, others, c) != 1) {
                        left = others;
                        again = true;
                    }
                }
            }
            lastBlamed = left;
            return left.size();
        } catch (Spent s) {
            return SPENT;
        }
    }

    public int blamed(int i) {
        return lastBlamed == null || !in(i, lastBlamed) ? BAD : lastBlamed.get(i);
    }

    public int build(int old, int fresh) {
        if (get(old) == null || get(fresh) == null) {
            return BAD;
        }
        if (builds.size() == 8) {
            return FULL;
        }
        Build b = new Build();
        b.old = get(old);
        b.fresh = get(fresh);
        builds.add(b);
        return builds.size() - 1;
    }

    public int foretold(int b, int i) {
        if (!in(b, builds) || !in(i, builds.get(b).old.codes)) {
            return BAD;
        }
        Build x = builds.get(b);
        Code code = x.old.codes.get(i);
        if (x.replaced(code.body.unit) || code.op < 3 || code.op > 7) {
            return NONE;
        }
        int look = x.look(code.arg);
        return look == 0 ? NONE : look >= 100 ? 0 : look;
    }

    public int touch(int b, int c) {
        if (!in(b, builds) || !in(c, builds.get(b).old.cases)) {
            return BAD;
        }
        Build x = builds.get(b);
        Case one = x.old.cases.get(c);
        if (x.replaced(one.unit)) {
            return NONE;
        }
        watch();
        Runner r = new Runner(new Parcel[] {x.old, x.fresh}, x);
        r.watched = true;
        lastTold = r.live(one);
        return lastTold.verdict;
    }
}
