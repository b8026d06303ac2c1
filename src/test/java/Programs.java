import java.util.ArrayList;
import java.util.List;
import java.util.Random;

/** Makes texts of parcels by chance (always the same ones for a number): most have no FAULT. */
final class Programs {
    private static final String[] UNIT_NAMES = {"a", "b", "m", "u", "lib", "q7", "longname", "x", "w", "v9"};
    private static final String[] MEMBER_NAMES = {"f", "g", "h", "x", "y", "z", "k", "s", "r", "n", "it", "e", "count",
        "abcdefgh", "p1", "p2", "o"};
    private static final String[] LOCAL_NAMES = {"x", "y", "i", "j", "e", "t", "l1", "l2", "l3", "l4", "l5", "l6"};

    private record Declared(String unit, String name, int sort, boolean own, int number) {
    }

    private final Random chance;
    private final List<Declared> declared = new ArrayList<>();
    private StringBuilder out;
    private String unit;
    private List<String> locals;
    private int budget;
    // How often a NAME is one that means nothing there.
    private final int slips;

    Programs(Random chance, int slips) {
        this.chance = chance;
        this.slips = slips;
    }

    private int to(int n) {
        return chance.nextInt(n);
    }

    private boolean once(int in) {
        return chance.nextInt(in) == 0;
    }

    String parcel(int units) {
        out = new StringBuilder();
        List<String> names = new ArrayList<>(List.of(UNIT_NAMES));
        java.util.Collections.shuffle(names, chance);
        if (once(2)) {
            // So that several parcels share NAMES of units.
            names = new ArrayList<>(List.of(UNIT_NAMES));
        }
        declared.clear();
        List<List<Declared>> members = new ArrayList<>();
        for (int u = 0; u < units; u++) {
            List<Declared> own = new ArrayList<>();
            List<String> pool = new ArrayList<>(List.of(MEMBER_NAMES));
            if (once(2)) {
                java.util.Collections.shuffle(pool, chance);
            }
            int many = 1 + to(once(8) ? 12 : 5);
            for (int m = 0; m < many; m++) {
                int sort = once(3) ? 4 : to(5);
                int number = sort == 3 ? 1 + to(once(5) ? 50 : 4) : sort == 4 ? to(once(3) ? 5 : 3) : to(15) - 3;
                Declared d = new Declared(names.get(u), pool.get(m), sort, once(5), number);
                own.add(d);
                declared.add(d);
            }
            members.add(own);
        }
        for (int u = 0; u < units; u++) {
            unit = names.get(u);
            out.append("unit ").append(unit).append("{");
            oneUnit(members.get(u));
            out.append("}").append(once(3) ? "\n" : "");
        }
        return out.toString();
    }

    private void oneUnit(List<Declared> members) {
        int tests = 0;
        boolean started = false;
        int befores = 0;
        int afters = 0;
        int i = 0;
        int props = 0;
        while (i < members.size() || once(2) && tests < 4) {
            int kind = to(10);
            if (kind < 5 && i < members.size()) {
                member(members.get(i++));
            } else if (kind == 5 && !started) {
                started = true;
                out.append("start");
                body(new ArrayList<>(), 12);
            } else if (kind == 6 && befores < 3 && once(2)) {
                befores++;
                out.append("before");
                body(new ArrayList<>(), 8);
            } else if (kind == 7 && afters < 3 && once(2)) {
                afters++;
                out.append("after");
                body(new ArrayList<>(), 8);
            } else if (kind == 8 && props < 2 && once(2)) {
                props++;
                out.append("prop pr").append(props).append("(");
                List<String> parameters = parameters(1 + to(4));
                out.append(String.join(",", parameters)).append(")");
                body(parameters, 20);
            } else if (kind == 9 && tests < 4) {
                tests++;
                test(tests);
            }
        }
        while (tests < 2 && !once(3)) {
            tests++;
            test(tests);
        }
    }

    private void member(Declared d) {
        out.append(d.own ? "own " : "").append(new String[] {"const", "var", "shared", "row", "fun"}[d.sort])
                .append(" ").append(d.name);
        if (d.sort < 3) {
            out.append("=").append(d.number).append(";");
        } else if (d.sort == 3) {
            out.append("[").append(d.number).append("];");
        } else {
            List<String> parameters = parameters(d.number);
            out.append("(").append(String.join(",", parameters)).append(")");
            body(parameters, 16);
        }
    }

    private List<String> parameters(int n) {
        List<String> pool = new ArrayList<>(List.of(LOCAL_NAMES));
        java.util.Collections.shuffle(pool, chance);
        return new ArrayList<>(pool.subList(0, n));
    }

    private void test(int number) {
        out.append("test t").append(number);
        if (once(12)) {
            out.append(" skip");
        }
        if (once(4)) {
            out.append(" raises ").append(1 + to(12));
        }
        if (once(4)) {
            out.append(" with ");
            int many = 1 + to(4);
            for (int i = 0; i < many; i++) {
                out.append(i == 0 ? "" : ",").append(to(12) - 4);
            }
        }
        List<String> it = new ArrayList<>();
        it.add("it");
        body(it, 20);
    }

    private void body(List<String> parameters, int size) {
        locals = new ArrayList<>(parameters);
        budget = size;
        block(1);
    }

    private void block(int depth) {
        out.append("{");
        int seen = locals.size();
        int many = to(4) + (depth == 1 ? 1 : 0);
        for (int i = 0; i < many && budget > 0; i++) {
            statement(depth);
        }
        locals = new ArrayList<>(locals.subList(0, seen));
        out.append("}");
    }

    private String freshLocal() {
        for (int n = 0; n < 10; n++) {
            String s = LOCAL_NAMES[to(LOCAL_NAMES.length)];
            if (!locals.contains(s) && locals.size() < 10) {
                return s;
            }
        }
        return null;
    }

    private void statement(int depth) {
        budget--;
        switch (to(once(3) ? 12 : 9)) {
            case 0:
            case 1:
                String name = freshLocal();
                if (name != null) {
                    out.append("let ").append(name).append("=");
                    expr(2);
                    out.append(";");
                    locals.add(name);
                }
                break;
            case 2:
            case 3:
                assignment();
                break;
            case 4:
                if (!call(2)) {
                    assignment();
                } else {
                    out.append(";");
                }
                break;
            case 5:
                out.append("check ");
                expr(once(2) ? 1 : 3);
                out.append(";");
                break;
            case 6:
                out.append("return ");
                expr(2);
                out.append(";");
                break;
            case 7:
            case 9:
                if (depth < 4) {
                    out.append("if ");
                    expr(1);
                    block(depth + 1);
                    if (once(2)) {
                        out.append("else");
                        block(depth + 1);
                    }
                }
                break;
            case 8:
            case 10:
                String caught = freshLocal();
                if (depth < 4 && caught != null) {
                    out.append("try");
                    block(depth + 1);
                    out.append("catch ").append(caught);
                    locals.add(caught);
                    block(depth + 1);
                    locals.remove(locals.size() - 1);
                } else {
                    out.append("raise ");
                    expr(1);
                    out.append(";");
                }
                break;
            default:
                loop(depth);
                break;
        }
    }

    private void loop(int depth) {
        if (!locals.isEmpty() && depth < 4) {
            String i = locals.get(to(locals.size()));
            out.append("while ").append(i).append("<").append(to(6)).append("{").append(i).append("=").append(i)
                    .append("+1;");
            if (once(2)) {
                statement(depth + 1);
            }
            out.append("}");
        } else {
            out.append("raise ").append(1 + to(12)).append(";");
        }
    }

    private void assignment() {
        if (!locals.isEmpty() && once(3)) {
            out.append(locals.get(to(locals.size())));
        } else {
            Declared d = find(once(3) ? 3 : 1 + to(2));
            if (d == null) {
                out.append("check 1;");
                return;
            }
            if (d.sort != 3 && locals.contains(d.name) && d.unit.equals(unit)) {
                out.append(unit).append(".").append(d.name);
            } else {
                use(d);
            }
            if (d.sort == 3) {
                out.append("[");
                index(d);
                out.append("]");
            }
        }
        out.append("=");
        expr(2);
        out.append(";");
    }

    private void index(Declared d) {
        if (once(2)) {
            out.append(to(Math.max(1, d.number) + (once(6) ? 1 : 0)));
        } else {
            expr(1);
        }
    }

    private Declared find(int sort) {
        for (int n = 0; n < 20; n++) {
            Declared d = declared.get(to(declared.size()));
            boolean mine = d.unit.equals(unit);
            if (once(slips)) {
                return d;
            }
            if (d.sort == sort && (mine || !d.own)) {
                return d;
            }
        }
        return null;
    }

    private void use(Declared d) {
        if (!d.unit.equals(unit) || once(6)) {
            out.append(d.unit).append(".");
        }
        out.append(d.name);
    }

    private boolean call(int deep) {
        Declared d = find(4);
        if (d == null) {
            return false;
        }
        use(d);
        out.append("(");
        int many = d.sort == 4 && !once(slips) ? d.number : 1;
        for (int k = 0; k < many; k++) {
            if (k > 0) {
                out.append(",");
            }
            expr(deep - 1);
        }
        out.append(")");
        return true;
    }

    private void expr(int deep) {
        budget--;
        int kind = deep <= 0 || budget < 0 ? to(4) : to(14);
        switch (kind) {
            case 0:
            case 1:
                out.append(once(20) ? 999999999 : to(8));
                break;
            case 2:
                if (locals.isEmpty()) {
                    out.append(to(3));
                } else {
                    out.append(locals.get(to(locals.size())));
                }
                break;
            case 3:
                Declared d = find(to(3));
                if (d == null) {
                    out.append("1");
                } else if (d.unit.equals(unit) && locals.contains(d.name)) {
                    out.append(unit).append(".").append(d.name);
                } else {
                    use(d);
                }
                break;
            case 4:
            case 5:
                if (!call(deep)) {
                    out.append("2");
                }
                break;
            case 6:
                Declared row = find(3);
                if (row == null) {
                    out.append("3");
                } else {
                    use(row);
                    out.append("[");
                    index(row);
                    out.append("]");
                }
                break;
            case 7:
                prefixed(deep);
                break;
            case 8:
                out.append("(");
                logical(deep);
                out.append(")");
                break;
            default:
                atom(deep);
                out.append(new String[] {"+", "-", "*", "/", "%", "<", "<=", "==", "!="}[to(9)]);
                atom(deep);
                break;
        }
    }

    private void prefixed(int deep) {
        if (once(2)) {
            out.append("-");
            atom(deep);
        } else {
            out.append("draw ");
            if (once(2)) {
                out.append(to(5));
            } else {
                atom(deep);
            }
        }
    }

    private void logical(int deep) {
        if (once(2)) {
            out.append("not ");
        }
        out.append("(");
        expr(deep - 1);
        out.append(")").append(once(2) ? " and " : " or ").append(once(3) ? "not not " : "").append("(");
        expr(deep - 1);
        out.append(")");
    }

    private void atom(int deep) {
        if (once(3)) {
            out.append("(");
            expr(deep - 1);
            out.append(")");
        } else if (once(3) && !locals.isEmpty()) {
            out.append(locals.get(to(locals.size())));
        } else if (once(2)) {
            out.append(to(6));
        } else {
            Declared d = find(to(3));
            if (d == null || d.unit.equals(unit) && locals.contains(d.name)) {
                out.append(to(4));
            } else {
                use(d);
            }
        }
    }

    // ---- texts made for one thing

    /** CASES that spoil one another by what is shared. */
    String spoilers() {
        out = new StringBuilder("unit u{");
        int shares = 2 + to(4);
        for (int i = 0; i < shares; i++) {
            out.append("shared s").append(i).append("=").append(to(2)).append(";");
        }
        int tests = 3 + to(12);
        int often = 1 + to(6);
        for (int i = 0; i < tests; i++) {
            out.append("test t").append(i).append(once(9) ? " skip" : "").append("{");
            if (once(often)) {
                out.append("while it<").append(to(80)).append("{it=it+1;}");
            }
            for (int n = to(3); n >= 0; n--) {
                int at = to(shares);
                if (once(2)) {
                    out.append("s").append(at).append("=s").append(to(shares)).append("+").append(to(3)).append(";");
                } else {
                    out.append("s").append(at).append("=").append(to(3)).append(";");
                }
            }
            out.append("check s").append(to(shares)).append("+s").append(to(shares)).append("<").append(1 + to(5))
                    .append(";}");
        }
        return out.append("}").toString();
    }

    /** CASES that draw much. */
    String gamblers() {
        out = new StringBuilder("unit u{var n=0;fun d(a){return draw a;}");
        for (int i = 0; i < 6; i++) {
            out.append("test t").append(i).append("{");
            switch (to(6)) {
                case 0:
                    out.append("while draw ").append(2 + to(2)).append("{n=n+1;}check n<").append(to(12)).append(";");
                    break;
                case 1:
                    out.append("let a=0;while a<").append(to(10)).append("{a=a+1;check draw ").append(2 + to(3))
                            .append(";}");
                    break;
                case 2:
                    out.append("check d(").append(1 + to(6)).append(")<d(").append(1 + to(30)).append(");");
                    break;
                case 3:
                    out.append("if draw 2{check draw ").append(1 + to(40)).append("+draw ").append(1 + to(12))
                            .append("<").append(to(20)).append(";}else{raise draw 3;}");
                    break;
                case 4:
                    out.append("let b=").append(1 + to(40)).append(";while draw b{b=b+").append(to(30))
                            .append(";n=n+1;}check n==").append(to(4)).append(";");
                    break;
                default:
                    out.append("let c=0;while c<").append(20 + to(25))
                            .append("{c=c+1;if draw 2{return 0;}}check draw ").append(1 + to(5)).append(";");
                    break;
            }
            out.append("}");
        }
        return out.append("prop p(a,b){while n<a{n=n+1;}check n+b!=").append(to(30)).append(";}prop q(a,b,c,d){check d(")
                .append(2 + to(4)).append(")*a*b<c*d+").append(to(900)).append(";}prop o(a){while 1{if a*a==")
                .append(to(40)).append("{return 1;}}}prop r(a,b){if -9<a and a<9 or b<3{return 0;}while 1{}}prop w(a){let i=0;while i<")
                .append(to(40)).append("{i=i+1;}}}").toString();
    }

    /** Counts that lie near a limit of the document. */
    String limits() {
        out = new StringBuilder("unit u{");
        switch (to(12)) {
            case 0:
                for (int i = to(3) + 7; i > 1; i--) {
                    out.append("}unit v").append(i).append("{");
                }
                break;
            case 1:
                for (int i = to(3) + 11; i > 0; i--) {
                    out.append(new String[] {"const m%=1;", "var m%=1;", "shared m%=-2;", "row m%[3];", "fun m%(){}"}[to(5)]
                            .replace("%", "" + i));
                }
                break;
            case 2:
                for (int i = to(4) + 1; i > 0; i--) {
                    out.append(new String[] {"start{}", "before{}", "after{}"}[to(3)]);
                    out.append(once(2) ? "before{}" : "after{}");
                    out.append("before{}after{}");
                }
                break;
            case 3:
                out.append(once(2) ? "fun f(" : "prop p(").append("a,b,c,d".substring(0, 1 + 2 * to(4)))
                        .append(once(2) ? ",e" : "").append("){").append(lets(5 + to(4))).append("}");
                break;
            case 4:
                out.append("test t{").append(lets(7 + to(4)));
                out.append(once(2) ? "try{let z=1;}catch y{" : "if 1{let z=2;").append("}}");
                break;
            case 5:
                int many = 0;
                for (int i = 0; many < 13 + to(6); i++) {
                    int one = 1 + to(once(6) ? 5 : 4);
                    many += one;
                    out.append("test t").append(i).append(" with 1");
                    for (int k = 1; k < one; k++) {
                        out.append(once(2) ? ",2" : ",-3");
                    }
                    out.append("{}");
                }
                break;
            case 6:
                for (int i = to(3) + 5; i > 0; i--) {
                    out.append("prop p").append(i).append("(a){}");
                }
                break;
            case 7:
            case 8:
                out.append("row r[9];fun f(a){return ").append(nested(17 + to(4))).append(";}");
                break;
            case 9:
                out.append("fun f(){").append("if 1{".repeat(17 + to(4))).append("let a=").append(nested(to(4)))
                        .append(";");
                out.append("}".repeat(out.toString().split("if 1").length - 1)).append("}");
                break;
            case 10:
                out.append("fun f(){let a=0").append("+1".repeat(95 + to(5))).append(";").append(once(2) ? "f();" : "")
                        .append("}");
                break;
            default:
                for (int i = 0; i < 5; i++) {
                    out.append("fun f").append(i).append("(){let a=0").append("+1".repeat(92 + to(5))).append(";f")
                            .append(i).append("();}");
                }
                out.append(once(2) ? "test t{}" : "").append(once(2) ? "test o{check 1;check 1;check 1;}" : "");
                break;
        }
        return out.append("}").toString();
    }

    private String lets(int many) {
        StringBuilder made = new StringBuilder();
        for (int i = 0; i < many; i++) {
            made.append("let l").append(i).append("=").append(i).append(";");
        }
        return made.toString();
    }

    private String nested(int deep) {
        if (deep <= 0) {
            return "a";
        }
        switch (to(6)) {
            case 0:
                return "(" + nested(deep - 1) + ")";
            case 1:
                return "-" + (once(2) ? "(" + nested(deep - 2) + ")" : "f(" + nested(deep - 2) + ")");
            case 2:
                return "draw " + "u.f(" + nested(deep - 2) + ")";
            case 3:
                return "r[" + nested(deep - 1) + "]";
            case 4:
                return "(not not " + nested(deep - 3) + ")";
            default:
                return "f(1-2-(3)-" + nested(deep - 1) + ")";
        }
    }
}
