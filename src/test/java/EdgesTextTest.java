import java.io.IOException;

/**
 * Each sentence of "1 TEXTS" and of the promises 1 to 10 that names a boundary, as it stands in the document, and what
 * it asks for just ahead of the boundary, at it and behind it.
 */
public final class EdgesTextTest {
    private static final int BAD = TestHouse.BAD, NONE = TestHouse.NONE, FULL = TestHouse.FULL;
    private static final int LEAST = Integer.MIN_VALUE, GREATEST = Integer.MAX_VALUE;
    private static final String[] WORDS = {"unit", "own", "const", "var", "shared", "row", "start", "fun", "before",
        "after", "test", "skip", "raises", "with", "prop", "let", "if", "else", "while", "return", "check", "raise",
        "try", "catch", "draw", "and", "or", "not"};

    public static void main(String[] args) throws IOException {
        Checks.readDocument(args);
        theTape();
        blanks();
        tokens();
        names();
        numbers();
        words();
        units();
        members();
        statements();
        expressions();
        anyExpression();
        locals();
        plainNames();
        firstTokens();
        leastFaults();
        ends();
        twice();
        notAsTold();
        manyUnitsAndMembers();
        manyNameless();
        manyLocals();
        manyWiths();
        manyCases();
        manyProps();
        nested();
        nestedNoMore();
        longCodes();
        meanings();
        meaningsOfOthers();
        firstMeaning();
        promise1();
        promise2();
        promise3();
        promise4();
        promise5();
        promise6();
        promise7();
        promise8();
        promise9();
        promise10();
        Checks.duePromises(1, 10);
        Checks.end("EdgesTextTest");
    }

    /** The FAULT is at the @, which is no byte of the text. */
    private static void fault(int number, String text) {
        Checks.dueFault(text.replace("@", ""), number, text.indexOf('@'));
    }

    private static void fine(String text) {
        Checks.dueNoFault(text);
    }

    private static String repeated(int from, int to, String text) {
        StringBuilder out = new StringBuilder();
        for (int i = from; i <= to; i++) {
            out.append(text.replace("#", "" + i));
        }
        return out.toString();
    }

    // ---- 1 TEXTS

    private static void theTape() {
        Checks.says("THE TAPE has at most 3000 bytes, places on it are counted from 0.");
        TestHouse x = new TestHouse();
        for (int n = 1; n <= 150; n++) {
            Checks.due("feed " + n, x.feed(0x20202020, 0x20202020, 0x20202020, 0x20202020, 0x20202020), 20 * n);
        }
        Checks.due("3001 and more", x.feed(0, 0, 0, 0, 0), FULL);
        Checks.due("none came", x.cut(0), 3000);
        Checks.due("the place behind 0 .. 2999", x.parcel(), -10 - 3000);
        fault(2, "@x");
        fault(2, " @x");
        fine("unit u{}" + " ".repeat(2984) + "unit v{}");
        fault(2, "unit u{}" + " ".repeat(2991) + "@x");
    }

    private static void blanks() {
        Checks.says("BLANKS are 10, 13, 32.");
        String signs = "{}()[],;.=+-*/%<";
        for (int b = 0; b < 256; b++) {
            char c = (char) b;
            String text = "unit u" + c + "{}";
            boolean named = c >= 'a' && c <= 'z' || c >= '0' && c <= '9';
            if (b == 10 || b == 13 || b == 32 || named) {
                fine(text);
            } else {
                boolean sign = signs.indexOf(c) >= 0;
                // A { is the one that is due there; the next one is not.
                Checks.dueFault(text, sign ? 2 : 1, c == '{' ? 7 : 6);
            }
        }
        fine("\n\r unit\r\nu \n{\r}\n");
    }

    private static void tokens() {
        Checks.says("TOKENS, each as long as may be:");
        fine("unit u{start{check 1<=1;check 1==1;check 1!=1;check 1<1;}}");
        fault(2, "unit u{start{check 1< @=1;}}");
        fault(2, "unit u{start{check 1@= =1;}}");
        fault(1, "unit u{start{check 1@! =1;}}");
        fault(2, "unit u{start{check 1<=@=1;}}");
        fault(2, "unit u{start{check 1==@=1;}}");
        fault(2, "unit u{start{check 1!=@=1;}}");
        // At the very end of the tape, too.
        fault(2, "unit u{start{check 1<=@");
        fault(2, "unit u{start{check 1==@");
        fault(2, "unit u{start{check 1!=@");
        fault(2, "unit u{start{check 1<@");
        fault(1, "unit u{start{check 1@!");
        fault(2, "@unitu{}");
        fault(2, "unit u{@vara=1;}");
        fine("unit u{var a1=1;}");
        Checks.says("SIGNS { } ( ) [ ] , ; . = + - * / % < <= == !=");
        fault(1, "unit u{start{check 1@>1;}}");
        fault(1, "unit u{start{check 1@&1;}}");
        fault(1, "unit u{@\"\"}");
    }

    private static void names() {
        Checks.says("NAMES (a letter a .. z, then letters and digits; longer than 8 bytes they are none)");
        fine("unit a{}unit z{}unit a0{}unit z9z{}");
        fine("unit eightchr{}unit a2345678{}");
        fault(1, "unit @ninechars{}");
        fault(1, "unit @a23456789{}");
        fault(1, "unit @" + "a".repeat(2995));
        fault(1, "@" + "u".repeat(3000));
        fault(1, "unit @1a{}");
        fault(2, "unit @1{}");
        fault(1, "unit @A{}");
        fault(1, "unit a@A{}");
        fault(1, "unit a@_{}");
        fault(1, "unit u{start{check @ninechars;}}");
        fault(1, "unit u{start{check u.@ninechars;}}");
    }

    private static void numbers() {
        Checks.says("NUMBERS (digits; more than 9, or a letter right behind, and they are none)");
        TestHouse x = Checks.house("unit u{const a=999999999;const b=-999999999;const c=000000001;const d=0;const e=-0;}");
        Checks.dueRow("numbers", m -> x.member(0, m, 3), 999999999, -999999999, 1, 0, 0, BAD);
        fault(1, "unit u{const a=@1000000000;}");
        fault(1, "unit u{const a=@0000000001;}");
        fault(1, "unit u{const a=-@1000000000;}");
        fault(1, "unit u{const a=@" + "1".repeat(2985));
        fault(1, "unit u{const a=@1a;}");
        fault(1, "unit u{const a=@999999999z;}");
        fault(2, "unit u{const a=1 @a;}");
        fault(1, "unit u{const a=1@A;}");
        fault(1, "unit u{row r[@1a];}");
    }

    private static void words() {
        Checks.says("WORDS, which are no NAMES: unit own const var shared row start fun before after test skip raises with prop "
                + "let if else while return check raise try catch draw and or not.");
        for (String word : WORDS) {
            fault(2, "unit @" + word + "{}");
            fault(2, "unit u{var @" + word + "=1;}");
            fault(2, "unit u{fun f(@" + word + "){}}");
            fault(2, "unit u{start{let @" + word + "=1;}}");
            fault(2, "unit u{start{check u.@" + word + ";}}");
            // One letter or digit more, and it is a NAME.
            fine("unit " + word + "x{}unit " + word + "0{var x" + word + "=1;}");
        }
        fine("unit it{var it=1;}unit un{var ends=1;}");
    }

    private static void units() {
        Checks.says("PARCEL: UNIT {UNIT}      UNIT: unit NAME \"{\" {MEMBER} \"}\"      SIGNED: [-] NUMBER");
        fault(2, "@");
        fault(2, " \n @");
        fine("unit u{}");
        fine("unit u{}unit v{}");
        fault(2, "unit u{}@;");
        fault(2, "unit u{}@u");
        fault(2, "unit @{}");
        fault(2, "unit u@}");
        fault(2, "unit u{}@}");
        fine("unit u{const a=-1;const b=- 1;const c=1;}");
        fault(2, "unit u{const a=-@-1;}");
        fault(2, "unit u{const a=@+1;}");
        fault(2, "unit u{const a=@;}");
        fault(2, "unit u{const a=-@;}");
        fault(2, "unit u{const a=1@+1;}");
    }

    private static void members() {
        Checks.says("[own] fun NAME ( [NAME {, NAME}] ) BLOCK | start BLOCK | before BLOCK | after BLOCK");
        fine("unit u{fun f(){}}");
        fine("unit u{fun f(a){}}");
        fault(2, "unit u{fun f(@,a){}}");
        fault(2, "unit u{fun f(a,@){}}");
        fault(2, "unit u{fun f(a @b){}}");
        fault(2, "unit u{fun f@{}}");
        fault(2, "unit u{fun f()@}");
        fault(2, "unit u{fun f()@;}");
        fault(2, "unit u{@{}}");
        fault(2, "unit u{@;}");
        fault(2, "unit u{@a=1;}");
        fault(2, "unit u{@unit v{}}");
        for (String sort : new String[] {"start{}", "before{}", "after{}", "test t{}", "prop p(a){}", "own var a=1;", "}"}) {
            fault(2, "unit u{own @" + sort + "}");
        }
        fine("unit u{own const a=1;own var b=1;own shared c=1;own row d[1];own fun e(){}}");
        Checks.says("[own] row NAME \"[\" NUMBER \"]\" ;");
        fault(2, "unit u{row r[@];}");
        fault(2, "unit u{row r[@-1];}");
        fault(2, "unit u{row r[@a];}");
        fault(2, "unit u{row r@=1;}");
        fault(2, "unit u{var r@[1];}");
        Checks.says("test NAME [skip] [raises NUMBER] [with SIGNED {, SIGNED}] BLOCK | prop NAME ( NAME {, NAME} ) BLOCK");
        fine("unit u{test a{}test b skip{}test c raises 1{}test d with 0{}test e skip raises 1 with -1,1{}test f skip with 1{}}");
        fault(2, "unit u{test t raises 1 @skip{}}");
        fault(2, "unit u{test t with 1 @skip{}}");
        fault(2, "unit u{test t with 1 @raises 1{}}");
        fault(2, "unit u{test t skip @skip{}}");
        fault(2, "unit u{test t raises @{}}");
        fault(2, "unit u{test t raises @-1{}}");
        fault(2, "unit u{test t with @{}}");
        fault(2, "unit u{test t with 1,@{}}");
        fault(2, "unit u{test t with 1@;}");
        fault(2, "unit u{test t@(){}}");
        fault(2, "unit u{test @{}}");
        fault(2, "unit u{prop p(@){}}");
        fault(2, "unit u{prop p@{}}");
        fault(2, "unit u{prop p(a,@){}}");
        fault(2, "unit u{prop p(a) @skip{}}");
    }

    private static void statements() {
        Checks.says("STATEMENT: let NAME = EXPR ; | PLACE = EXPR ; | CALL ; | if EXPR BLOCK [else BLOCK] | while EXPR BLOCK | "
                + "return EXPR ; | check EXPR ; | raise EXPR ; | try BLOCK catch NAME BLOCK");
        String[] spoilt = {"let @=1;", "let a@;", "let a=@;", "let a=1@}", "let u@.a=1;", "f()@}", "f()@=1;", "f(@", "a@;", "a@}",
            "a.@;", "a.@=1;", "a.@(", "a.@[0]=1;", "a.@1=1;", "a.b@.c=1;", "a[1]@;", "a[@]=1;", "a[1@=1;", "a[1]@[1]=1;", "@1=1;",
            "@(a)=1;", "if @{}", "if 1@;", "if 1{}else@;", "@else{}", "if 1{}else{}@else{}", "while @{}", "while 1@;",
            "return @;", "return 1@}", "check @;", "check 1@}", "raise @;", "raise 1@}", "try@;", "try{}@;", "try{}catch@{}",
            "try{}catch a@;", "@catch a{}", "@{}", "@;", "@const a=1;", "@test t{}", "@draw 1;", "@not 1;", "@-a=1;"};
        for (String text : spoilt) {
            // What is ahead of the @ is not asked what it means.
            fault(2, "unit u{start{" + text + "}}");
        }
        fine("unit u{start{}}");
        fine("unit u{var a=1;row b[1];fun f(){let c=1;a=c;u.a=c;b[0]=c;u.b[0]=c;f();u.f();if 1{}if 1{}else{}while 1{}return 1;"
                + "check 1;raise 1;try{}catch e{}}}");
    }

    private static void expressions() {
        Checks.says("DENIED: not DENIED | TEST   TEST: SUM [(< | <= | == | !=) SUM]");
        String[] spoilt = {"1<2@<3", "1==2@==3", "1<2@!=3", "1<2@<=3", "1+@not 1", "1<@not 1", "-@not 1", "draw @not 1", "1 @not 1",
            "(1@;", "(@)", "1 or@", "1 and@", "not@", "1+@", "1*@", "1%@", "-@", "draw@", "@+1", "@*1", "1 @1",
            "1 @a", "a @1", "f(1,@)", "f(@,1)", "f(1 @2)", "f(1@]", "a[1@,", "a[@]", "a.@",
            "a.@1", "@and 1", "@or 1", "@=1", "a@=1"};
        for (String text : spoilt) {
            String behind = text.endsWith(";") ? "}}" : ";}}";
            fault(2, "unit u{start{check " + text + behind);
        }
        for (String between : new String[] {" or ", " and ", "<", "<=", "==", "!=", "+", "-", "*", "/", "%"}) {
            fine("unit u{start{check 1" + between + "2;}}");
            fault(2, "unit u{start{check 1" + between + "@;}}");
        }
        fine("unit u{row r[2];fun f(a,b){check not not 1<2 and not 3==4 or 5!=6;check -draw - draw(1);"
                + "check (1<2)==(2<=3);check r[r[0]]+f(f(1,2),u.r[u.f(1,2)])*-1%2/3;}}");
    }

    private static void anyExpression() {
        Checks.says("EXPR: BOTH {or BOTH}   BOTH: DENIED {and DENIED}");
        String[] places = {"let a=$;", "v=$;", "u.v=$;", "r[$]=1;", "r[1]=$;", "check r[$];", "f($,1);", "f(1,$);", "check f($,1);",
            "check u.f(1,$);", "if $ {}", "while $ {}", "return $;", "check $;", "raise $;", "check ($);", "check -($);", "check draw ($);"};
        for (String place : places) {
            String head = "unit u{var v=1;row r[2];fun f(a,b){}start{";
            for (String expr : new String[] {"1 or 2", "1 and 2", "not 1", "1<2", "1+2", "1*2", "1 or not 2 and 3", "-1", "draw 1", "v or r[0]",
                "f(1,2) and 1 or 2"}) {
                fine(head + place.replace("$", expr) + "}}");
            }
            fault(2, head + place.replace("$", "1 or @or 2") + "}}");
            fault(2, head + place.replace("$", "@or 2") + "}}");
        }
    }

    private static void locals() {
        Checks.says("LOCALS are parameters, NAMES of let (seen behind its ; to the end of the BLOCK it stands in) and catch (in its "
                + "BLOCK), and it, in a test, from its beginning.");
        fine("unit u{fun f(a){check a;}prop p(b){check b;}}");
        fault(4, "unit u{fun f(a){}fun g(){check @a;}}");
        fault(4, "unit u{start{let a=@a;}}");
        fine("unit u{start{let a=1;check a;if a{check a;let b=a;check b;}check a;}}");
        fault(4, "unit u{start{check @a;let a=1;}}");
        fault(4, "unit u{start{if 1{let a=1;}check @a;}}");
        fault(4, "unit u{start{if 1{let a=1;}else{check @a;}}}");
        fault(4, "unit u{start{while 1{let a=1;}check @a;}}");
        fault(4, "unit u{start{try{let a=1;}catch b{check @a;}}}");
        fine("unit u{start{try{}catch e{check e;if e{check e;}}}}");
        fault(4, "unit u{start{try{check @e;}catch e{}}}");
        fault(4, "unit u{start{try{}catch e{}check @e;}}");
        fine("unit u{test t{check it;it=it+1;if it{check it;}}}");
        fine("unit u{test t with 1,2{let a=it;}}");
        for (String code : new String[] {"start{", "before{", "after{", "fun f(){", "prop p(a){"}) {
            fault(4, "unit u{" + code + "check @it;}}");
            fault(4, "unit u{" + code + "@it=1;}}");
            fine("unit u{" + code + "let it=1;check it;}}");
        }
        fault(3, "unit u{test t{let @it=1;}}");
    }

    private static void plainNames() {
        Checks.says("A NAME alone, without [ or ( behind, is the LOCAL of that NAME, if one is seen, else, as one with [ or (, a "
                + "member of its unit; NAME . NAME a member of that unit of the parcel.");
        TestHouse x = Checks.house("unit u{var a=1;row r[2];start{let b=a;let a=b;a=a;if u.a{u.a=a;}let r=a;r[0]=r[0]+r;}fun f(f)"
                + "{return f(f);}}");
        int[][] due = {{3, 0}, {2, 0}, {1, 0}, {2, 1}, {1, 1}, {2, 1}, {3, 0}, {24, 10}, {1, 1}, {4, 0}, {1, 1}, {2, 2}, {0, 0},
            {0, 0}, {5, 1}, {1, 2}, {10, 0}, {6, 1}, {0, 0}, {8, 0}, {1, 0}, {7, 2}, {8, 0}, {0, 0}, {8, 0}};
        Checks.due("how many", x.count(0, 3), due.length);
        for (int i = 0; i < due.length; i++) {
            Checks.due("operation " + i, x.code(0, i, 0), due[i][0]);
            Checks.due("number " + i, x.code(0, i, 1), due[i][1]);
        }
        // A LOCAL that has the NAME of a unit is none ahead of a point.
        fine("unit u{var a=1;fun f(u){check u.a+u;u.a=u;}}");
        fault(4, "unit u{fun f(a){check @a.a;}}");
        fault(4, "unit u{fun f(a){check u.@a;}}");
    }

    private static void firstTokens() {
        Checks.says("FAULTS, the first token at which there is one, of one token the least number:");
        fault(2, "unit u{}@; !");
        fault(1, "unit u{}@! ;");
        fault(3, "unit u{}unit @u{row r[0];}");
        fault(5, "unit u{row r[@0];}unit u{}");
        fault(6, "unit u{start{}@start{}}unit u{}");
        fault(5, "unit u{test a raises @0 with 1,2,3,4,5{}}");
        fault(6, "unit u{test a with 1,2,3,4,@5{}test b raises 0{}}");
        fault(3, "unit u{var a=1;var @a=1;!");
        // What nothing means is asked when there is no other FAULT, however far behind.
        fault(1, "unit u{start{a=1;}}@!");
        fault(2, "unit u{start{a=1;}@");
        fault(3, "unit u{start{a=1;}}unit @u{}");
        fault(5, "unit u{start{a=1;}row r[@51];}");
        fault(6, "unit u{start{a=1;}@start{}}");
        fault(4, "unit u{start{@a=1;}}");
    }

    private static void leastFaults() {
        Checks.says("of one token the least number: 1 it is none (at its first byte); 2 it cannot stand there");
        String units = repeated(1, 8, "unit u#{}");
        fault(1, units + "unit @ninechars{}");
        fault(2, units + "unit @{}");
        fault(3, units + "unit @u1{}");
        fault(6, units + "unit @u9{}");
        String twelve = repeated(1, 12, "var a#=1;");
        fault(1, "unit u{" + twelve + "var @!a=1;}");
        fault(2, "unit u{" + twelve + "var @1=1;}");
        fault(3, "unit u{" + twelve + "var @a12=1;}");
        fault(6, "unit u{" + twelve + "var @b=1;}");
        fault(1, "unit u{fun f(a,b,c,d,@!){}}");
        fault(2, "unit u{fun f(a,b,c,d,@){}}");
        fault(3, "unit u{fun f(a,b,c,d,@a){}}");
        fault(6, "unit u{fun f(a,b,c,d,@e){}}");
        String lets = repeated(1, 10, "let a#=1;");
        fault(1, "unit u{start{" + lets + "let @! =1;}}");
        fault(2, "unit u{start{" + lets + "let @=1;}}");
        fault(3, "unit u{start{" + lets + "let @a1=1;}}");
        fault(6, "unit u{start{" + lets + "let @b=1;}}");
        fault(1, "unit u{test t with 1,2,3,4,@1234567890{}}");
        fault(2, "unit u{test t with 1,2,3,4,@{}}");
        fault(6, "unit u{test t with 1,2,3,4,@-{}}");
        String tests = repeated(1, 16, "test t#{}");
        fault(1, "unit u{" + tests + "test @!{}}");
        fault(2, "unit u{" + tests + "test @{}}");
        fault(3, "unit u{" + tests + "test @t1{}}");
        fault(6, "unit u{" + tests + "test @t{}}");
        String props = repeated(1, 6, "prop p#(a){}");
        fault(2, "unit u{" + props + "prop @(a){}}");
        fault(3, "unit u{" + props + "prop @p6(a){}}");
        fault(6, "unit u{" + props + "prop @p(a){}}");
        fault(1, "unit u{row r[@51a];}");
        fault(1, "unit u{row r[@1234567890];}");
        // What is none is told at its first byte, wherever it stands.
        fault(1, "unit u{}   @123456789012{}");
        fault(1, "unit u{start{check 1+  @ninechars;}}");
    }

    private static final String[] WHOLE = {"unit", "u", "{", "own", "const", "a", "=", "-", "1", ";", "row", "r", "[", "2", "]", ";",
        "fun", "f", "(", "b", ",", "c", ")", "{", "let", "d", "=", "b", ";", "r", "[", "d", "]", "=", "f", "(", "c", ",", "a", ")", ";",
        "f", "(", "1", ",", "-", "2", ")", ";", "if", "not", "b", "<", "c", "and", "1", "or", "u", ".", "a", "{", "}", "else", "{",
        "return", "r", "[", "0", "]", ";", "}", "while", "draw", "2", "{", "raise", "1", ";", "}", "try", "{", "}", "catch", "e", "{",
        "check", "(", "e", "==", "1", ")", ";", "}", "}", "start", "{", "}", "before", "{", "}", "after", "{", "}", "test", "t", "skip",
        "raises", "1", "with", "1", ",", "-", "2", "{", "}", "prop", "p", "(", "x", ")", "{", "}", "}", "unit", "v", "{", "}"};

    private static void ends() {
        Checks.says("2 it cannot stand there (the end, too: the place behind the last byte)");
        StringBuilder text = new StringBuilder();
        int open = 0;
        for (String token : WHOLE) {
            text.append(text.length() == 0 ? "" : " ").append(token);
            open += token.equals("{") ? 1 : token.equals("}") ? -1 : 0;
            if (open == 0 && token.equals("}")) {
                fine(text.toString());
                fault(2, text + "@;");
            } else {
                fault(2, text + "@");
                fault(2, text + " \n@");
            }
        }
        fault(2, "@");
        fault(2, " ".repeat(3000) + "@");
        fault(2, "unit u{" + " ".repeat(2993) + "@");
    }

    private static void twice() {
        Checks.says("3 a NAME that is told already: of units; of members of a unit (all that have NAMES); a LOCAL that is seen;");
        fault(3, "unit u{}unit v{}unit @u{}");
        fault(3, "unit u{}unit @u");
        String[] sorts = {"const $a=1;", "var $a=1;", "shared $a=1;", "row $a[1];", "fun $a(){}", "test $a{}", "prop $a(b){}"};
        for (String first : sorts) {
            for (String second : sorts) {
                String ahead = first.replace("$", "");
                fault(3, "unit u{" + ahead + second.replace('$', '@') + "}");
                fine("unit u{" + ahead + "}unit v{" + second.replace("$", "") + "}");
            }
            // A unit may be called as a member is, and a LOCAL, too.
            fine("unit a{" + first.replace("$", "") + "start{let a=1;}}");
        }
        fine("unit u{fun f(f){}prop p(p){}test t{let t=1;}}");
        fault(3, "unit u{own var a=1;fun @a(){}}");
        fault(3, "unit u{fun f(a,@a){}}");
        fault(3, "unit u{fun f(a,b,c,@b){}}");
        fault(3, "unit u{prop f(a,@a){}}");
        fault(3, "unit u{fun f(a){let @a=1;}}");
        fault(3, "unit u{start{let a=1;let @a=1;}}");
        fault(3, "unit u{start{let a=1;if 1{let @a=1;}}}");
        fault(3, "unit u{start{let a=1;while 1{if 1{let @a=1;}}}}");
        fault(3, "unit u{start{let a=1;try{}catch @a{}}}");
        fault(3, "unit u{start{try{}catch a{let @a=1;}}}");
        fault(3, "unit u{start{try{}catch a{try{}catch @a{}}}}");
        fault(3, "unit u{test t{try{}catch @it{}}}");
        // One that is not seen any more may be told anew.
        fine("unit u{start{if 1{let a=1;}let a=1;}before{let a=1;}fun f(a){}fun g(a){}}");
        fine("unit u{start{try{let a=1;}catch a{}try{}catch a{}let a=1;}}");
    }

    private static void notAsTold() {
        Checks.says("5 a NUMBER that is not as told: of row 1 .. 50, of raises 1 or more;");
        fault(5, "unit u{row r[@0];}");
        fault(5, "unit u{row r[@000];}");
        fine("unit u{row r[1];}");
        fine("unit u{row r[01];row s[050];}");
        fine("unit u{row r[50];}");
        fault(5, "unit u{row r[@51];}");
        fault(5, "unit u{row r[@999999999];}");
        fault(5, "unit u{own row r[@0]}");
        fault(5, "unit u{test t raises @0{}}");
        fault(5, "unit u{test t raises @0 with 1{}}");
        fine("unit u{test t raises 1{}}");
        fine("unit u{test t raises 999999999{}}");
        fine("unit u{const a=0;test t with 0,-0{}}");
    }

    private static void manyUnitsAndMembers() {
        Checks.says("6 one too many: the 9th unit, the 13th of all const, var, shared, row and fun of a unit (at its NAME);");
        fine(repeated(1, 8, "unit u#{}"));
        fault(6, repeated(1, 8, "unit u#{}") + "unit @u9{}");
        fault(6, repeated(1, 8, "unit u#{}") + "unit @u9");
        fault(2, repeated(1, 8, "unit u#{}") + "unit@");
        String[] sorts = {"const $#=1;", "var $#=1;", "shared $#=1;", "row $#[1];", "fun $#(){}"};
        for (String many : sorts) {
            String twelve = repeated(1, 12, many.replace('$', 'a'));
            fine("unit u{" + twelve + "}unit v{" + twelve + "}");
            fine("unit u{" + twelve + "start{}before{}after{}test t{}prop p(a){}}");
            for (String last : sorts) {
                fault(6, "unit u{" + twelve + last.replace("$#", "@b") + "}");
                fault(6, "unit u{own " + twelve + "own " + last.replace("$#", "@b") + "}");
            }
            fault(6, "unit u{}unit v{" + twelve + "var @b");
        }
        fault(6, "unit u{" + repeated(1, 12, "test t#{}var a#=1;") + "var @b=1;}");
        fine(repeated(1, 8, "unit u#{var a=1;var b=1;var c=1;row d[50];row e[50];row f[50];var g=1;var h=1;fun i(){}fun j(){}"
                + "const k=1;own shared l=1;}"));
    }

    private static void manyNameless() {
        Checks.says("the second start, 4th before, 4th after of a unit;");
        fine("unit u{start{}}unit v{start{}}");
        fault(6, "unit u{start{}@start{}}");
        fault(6, "unit u{start{}var a=1;@start");
        fine("unit u{before{}before{}before{}after{}after{}after{}start{}}unit v{before{}before{}before{}after{}}");
        fault(6, "unit u{before{}before{}before{}@before{}}");
        fault(6, "unit u{after{}after{}after{}@after{}}");
        fault(6, "unit u{before{}after{}before{}after{}before{}after{}@before{}}");
        fault(6, "unit u{before{}after{}before{}after{}before{}after{}start{}@after");
    }

    private static void manyLocals() {
        Checks.says("the 5th parameter, the 11th LOCAL seen at once (at its NAME);");
        fine("unit u{fun f(a,b,c,d){}prop p(a,b,c,d){}}");
        fault(6, "unit u{fun f(a,b,c,d,@e){}}");
        fault(6, "unit u{fun f(a,b,c,d,@e,f){}}");
        fault(6, "unit u{prop p(a,b,c,d,@e){}}");
        String[] heads = {"start{", "before{", "after{", "test t{", "fun f(){", "fun f(a,b){", "fun f(a,b,c,d){", "prop p(a){"};
        int[] seen = {0, 0, 0, 1, 0, 2, 4, 1};
        for (int n = 0; n < heads.length; n++) {
            String ten = "unit u{" + heads[n] + repeated(1, 10 - seen[n], "let a#=1;");
            fine(ten + "}}");
            fault(6, ten + "let @x=1;}}");
            fault(6, ten + "if 1{let @x=1;}}}");
            fault(6, ten + "try{}catch @x{}}}");
            fault(6, ten + "try{let @x=1;}catch y{}}}");
            String nine = "unit u{" + heads[n] + repeated(1, 9 - seen[n], "let a#=1;");
            fine(nine + "if 1{let x=1;}else{let y=1;}while 1{let x=1;}try{let x=1;}catch y{}let z=1;}}");
            fault(6, nine + "try{}catch x{let @y=1;}}}");
            fault(6, nine + "let x=1;if 1{}let @y");
        }
        fine("unit u{start{" + repeated(1, 10, "try{}catch a#{") + "}".repeat(10) + "}}");
        fault(6, "unit u{start{" + repeated(1, 10, "try{}catch a#{") + "try{}catch @x{}" + "}".repeat(10) + "}}");
    }

    private static void manyWiths() {
        Checks.says("the 5th SIGNED of with (at its first token);");
        fine("unit u{test t with 1,2,3,4{}}");
        fine("unit u{test t with -1,-2,-3,-4{}}");
        fault(6, "unit u{test t with 1,2,3,4,@5{}}");
        fault(6, "unit u{test t with 1,2,3,4,@-5{}}");
        fault(6, "unit u{test t with 1,2,3,4,@- 5{}}");
        fault(6, "unit u{test t with 1,2,3,4,@5,6");
        fine("unit u{test t with 1,2,3,4{}test s with 1,2,3,4{}}");
    }

    private static void manyCases() {
        Checks.says("the 17th CASE (a test makes one at its NAME, with one more at each SIGNED but its first)");
        fine("unit u{" + repeated(1, 16, "test t#{}") + "}");
        fault(6, "unit u{" + repeated(1, 16, "test t#{}") + "test @x{}}");
        fault(6, repeated(1, 4, "unit u#{test a{}test b{}test c{}test d{}}") + "unit v{test @x with 1,2{}}");
        fine("unit u{" + repeated(1, 16, "test t# with 1{}") + "}");
        fine("unit u{" + repeated(1, 4, "test t# with 1,2,3,4{}") + "}");
        fault(6, "unit u{" + repeated(1, 4, "test t# with 1,2,3,4{}") + "test @x{}}");
        String fifteen = "unit u{" + repeated(1, 15, "test t# skip{}");
        fine(fifteen + "test x with -1{}}");
        fault(6, fifteen + "test x with 1,@2{}}");
        fault(6, fifteen + "test x with 1,@-2,3{}}");
        String thirteen = "unit u{" + repeated(1, 13, "test t#{}");
        fine(thirteen + "test x with 1,-2,3{}}");
        fault(6, thirteen + "test x with 1,-2,3,@-4{}}");
        fault(6, thirteen + "test x with 1,-2,3,@4,5{}}");
    }

    private static void manyProps() {
        Checks.says("the 7th prop (at its NAME);");
        fine("unit u{" + repeated(1, 6, "prop p#(a){}") + "}");
        fault(6, "unit u{" + repeated(1, 6, "prop p#(a){}") + "prop @x(a){}}");
        fault(6, repeated(1, 6, "unit u#{prop p(a){}}") + "unit v{prop @p(a){}}");
    }

    private static void nested() {
        Checks.says("the 21st of { ( [ - not draw of a BLOCK or EXPR in one another");
        // What opens one more, what is inside of all, what closes one; the { of the member is the first one of all.
        String[][] kinds = {{"if 1$", "{", "", "}"}, {"while 1$", "{", "", "}"}, {"if 1{}else$", "{", "", "}"},
            {"try$", "{", "", "}catch e{}"}, {"check $", "(", "1", ")"}, {"check f$", "(", "1", ")"}, {"f$", "(", "1", ")"},
            {"check r$", "[", "1", "]"}, {"check $", "-", "1", ""}, {"check $", "not", "1", ""}, {"check $", "draw", "1", ""}};
        for (String[] kind : kinds) {
            boolean block = kind[1].equals("{");
            String again = block ? kind[0].replace("$", kind[1]) : kind[0].replace("check ", "").replace("$", kind[1]) + " ";
            String head = "unit u{row r[2];fun f(a){" + (kind[0].startsWith("check") ? "check " : "");
            String end = block ? "}}" : ";}}";
            fine(head + again.repeat(19) + kind[2] + kind[3].repeat(19) + end);
            String last = kind[0].replace("check ", "").replace("$", "@" + kind[1]) + " ";
            if (kind[0].contains("else")) {
                // The { of the if is there ahead of that of the else.
                last = "if 1@{";
            }
            fault(6, head + again.repeat(19) + last + kind[2] + kind[3].repeat(20) + end);
        }
        fine("unit u{row r[2];start{" + "r[".repeat(19) + "1" + "]".repeat(19) + "=1;}}");
        fault(6, "unit u{row r[2];start{" + "r[".repeat(19) + "r@[1" + "]".repeat(20) + "=1;}}");
        // All of them in one another.
        String mixed = "unit u{row r[2];fun f(a){if 1{while 1{try{check -(r[f(not draw -(r[f(not draw -(r[f(";
        String closed = ")])".repeat(3) + ";}catch e{}}}}}";
        fine(mixed + "1" + closed);
        for (String last : new String[] {"f@(1)", "r@[1]", "@(1)", "@-1", "@draw 1", "@not 1"}) {
            fault(6, mixed + last + closed);
        }
        // What cannot stand there is 2, however deep.
        fault(2, "unit u{start{check " + "(".repeat(19) + "@)");
        fault(2, "unit u{start{check " + "(".repeat(19) + "1+@not 1");
    }

    private static void nestedNoMore() {
        Checks.says("(a { up to its }, ( and [ to theirs, the others to the end of what they stand before; arguments' ( count, too)");
        String deep = "(".repeat(19) + "1" + ")".repeat(19);
        fine("unit u{row r[2];fun f(a){if 1{}while 1{}try{}catch e{}check " + deep + ";check " + deep + ";}}");
        fine("unit u{row r[2];fun f(a){check (1)+" + deep + ";check f(1)+" + deep + ";check r[1]+" + deep + ";r[1]=" + deep + ";}}");
        fine("unit u{fun f(a,b){check f(f(1,2)," + deep.substring(1, deep.length() - 1) + ");}}");
        fault(6, "unit u{fun f(a,b){check f(1," + "(".repeat(18) + "@(1");
        fine("unit u{start{check -1+" + deep + ";check -1*" + deep + ";check draw 1*" + deep + ";check -draw -1<" + deep + ";}}");
        fault(6, "unit u{start{check -" + "(".repeat(18) + "@(1");
        fault(6, "unit u{start{check draw " + "(".repeat(18) + "@(1");
        // A not goes up to the end of its DENIED, a - and a draw to that of their FACTOR.
        fine("unit u{start{check not 1 and " + deep + ";check not 1 or " + deep + ";}}");
        fault(6, "unit u{start{check not 1<" + "(".repeat(18) + "@(1");
        fault(6, "unit u{start{check not 1*" + "(".repeat(18) + "@(1");
        // Those of no BLOCK and no EXPR do not count.
        fine("unit u{const c=-1;row r[2];fun f(a){check " + deep + ";}test t with -1{check " + deep + ";}prop p(a){check " + deep + ";}}");
    }

    private static String codeOf(int length) {
        // PUSH, (NEG,) PUSH ADD .., STORE, PUSH RETURN.
        int rest = length - 4;
        return "let a=" + (rest % 2 == 1 ? "-0" : "0") + "+1".repeat(rest / 2) + ";";
    }

    private static void longCodes() {
        Checks.says("the } that ends the BLOCK of a member, when its code has more than 200, or that of all so far more than 1000 "
                + "instructions.");
        String[] heads = {"start{", "before{", "after{", "test t{", "fun f(){", "prop p(a){"};
        for (String head : heads) {
            String shorter = head.startsWith("test") || head.startsWith("prop") ? "let b" : "let a";
            TestHouse x = Checks.house("unit u{" + head + codeOf(200).replace("let a", shorter) + "}}");
            Checks.due("200", x.count(0, 3), 200);
            fault(6, "unit u{" + head + codeOf(201).replace("let a", shorter) + "@}}");
            fault(6, "unit u{" + head + codeOf(202).replace("let a", shorter) + "@}}");
            fault(6, "unit u{" + head + "if 1{" + codeOf(201).replace("let a", shorter) + "}@}}");
            // The place is that of the }, ahead of whatever is wrong behind.
            fault(6, "unit u{" + head + codeOf(201).replace("let a", shorter) + "@} !");
        }
        String five = repeated(1, 5, "fun f#(){" + codeOf(200) + "}");
        TestHouse x = Checks.house("unit u{" + five + "const k=1;}unit v{var a=1;}");
        Checks.due("1000", x.count(0, 3), 1000);
        String lessOne = repeated(1, 4, "fun f#(){" + codeOf(200) + "}") + "fun f5(){" + codeOf(199) + "}";
        String lessTwo = repeated(1, 4, "fun f#(){" + codeOf(200) + "}") + "fun f5(){" + codeOf(198) + "}";
        for (String head : heads) {
            fine("unit u{" + lessTwo + "}unit v{" + head + "}}");
            fault(6, "unit u{" + lessOne + "}unit v{" + head + "@}}");
            fault(6, "unit u{" + five + "}unit v{" + head + "@}}");
        }
        String lessThree = repeated(1, 4, "fun f#(){" + codeOf(200) + "}") + "fun f5(){" + codeOf(197) + "}";
        fault(6, "unit u{" + lessThree + "start{}after{@}}");
        // A new text begins anew.
        TestHouse y = new TestHouse();
        for (int n = 0; n < 3; n++) {
            Checks.due("another parcel of 1000", Checks.parcel(y, "unit u{" + five + "}"), n);
        }
    }

    private static final String MEANT = "unit m{const k=1;var v=1;shared s=1;row r[2];fun f(a){}test t{}prop p(a){}";

    /** What each use must be: k, v, s, r, f, t, p, and one that is not there, in turn. */
    private static final String[][] USES = {{"check $;", "yyynnnnn"}, {"$=1;", "nyynnnnn"}, {"check $[0];", "nnnynnnn"},
        {"$[0]=1;", "nnnynnnn"}, {"check $(1);", "nnnnynnn"}, {"$(1);", "nnnnynnn"}, {"check $();", "nnnnnnnn"},
        {"$(1,2);", "nnnnnnnn"}, {"let z=1;check $+z;", "yyynnnnn"}, {"if $<1{}", "yyynnnnn"}};

    private static void meanings() {
        Checks.says("a member that is there, not own (but in its unit); const, var or shared for a value; var or shared (or a LOCAL) "
                + "to be given one; row with [; fun with ( and as many arguments (at its NAME).");
        String names = "kvsrftpx";
        for (String[] use : USES) {
            for (int n = 0; n < names.length(); n++) {
                boolean good = use[1].charAt(n) == 'y';
                String name = names.substring(n, n + 1);
                for (String ahead : new String[] {"", "m.", "own"}) {
                    String head = ahead.equals("own") ? MEANT.replace("{const", "{own const").replace(";", ";own ") : MEANT;
                    String point = ahead.equals("own") ? "m." : ahead;
                    String inside = head + "start{" + use[0].replace("$", point + "@" + name) + "}}";
                    if (good) {
                        fine(inside.replace("@", ""));
                    } else {
                        fault(4, inside);
                    }
                }
                String outside = MEANT + "}unit o{start{" + use[0].replace("$", "m.@" + name) + "}}";
                if (good) {
                    fine(outside.replace("@", ""));
                } else {
                    fault(4, outside);
                }
                // Without the unit it is a member of the unit around, where it is not.
                fault(4, MEANT + "}unit o{start{" + use[0].replace("$", "@" + name) + "}}");
            }
        }
        fine("unit u{fun f(){}fun g(a){}fun h(a,b,c,d){}start{f();g(1);h(1,2,3,4);}}");
        fault(4, "unit u{fun h(a,b,c,d){}start{@h(1,2,3);}}");
        fault(4, "unit u{fun h(a,b,c,d){}start{@h(1,2,3,4,5);}}");
        fault(4, "unit u{fun f(){}start{@f(1);}}");
        fine("unit u{start{let a=1;a=2;}fun f(b){b=1;}test t{it=1;try{}catch c{c=1;}}}");
    }

    private static void meaningsOfOthers() {
        Checks.says("4 the first NAME in a BLOCK that means nothing, or not what it must: a unit ahead of a point;");
        for (String[] use : USES) {
            fault(4, "unit u{start{" + use[0].replace("$", "@z.a") + "}}");
            fault(4, "unit u{var v=1;start{" + use[0].replace("$", "@v.a") + "}}");
            fault(4, "unit u{start{let b=1;" + use[0].replace("$", "@b.a") + "}}");
        }
        String[] owns = {"own const a=1;check m.@a;", "own var a=1;check m.@a;", "own var a=1;m.@a=1;", "own shared a=1;check m.@a;",
            "own shared a=1;m.@a=1;", "own row a[1];check m.@a[0];", "own row a[1];m.@a[0]=1;", "own fun a(){}m.@a();",
            "own fun a(){}check m.@a();"};
        for (String own : owns) {
            int cut = own.contains("{}") ? own.indexOf("{}") + 2 : own.indexOf(";") + 1;
            String member = own.substring(0, cut);
            String use = own.substring(cut);
            fault(4, "unit m{" + member + "}unit o{start{" + use + "}}");
            fault(4, "unit o{start{" + use + "}}unit m{" + member + "}");
            fine("unit m{" + member + "start{" + use.replace("@", "") + "}}");
            fine("unit m{" + member + "start{" + use.replace("m.@", "") + "}}");
            fine("unit m{" + member.substring(4) + "}unit o{start{" + use.replace("@", "") + "}}");
        }
    }

    private static void firstMeaning() {
        Checks.says("If there is none: 4 the first NAME in a BLOCK that means nothing");
        fault(4, "unit u{start{@a=b;c=d;}}");
        fault(4, "unit u{var a=1;start{a=@b;c=d;}}");
        fault(4, "unit u{fun f(a,b){}start{f(@x,y);}}");
        fault(4, "unit u{fun f(a,b){}start{@f(x);}}");
        fault(4, "unit u{row r[1];start{r[@x]=y;}}");
        fault(4, "unit u{row r[1];start{@x[y]=z;}}");
        fault(4, "unit u{start{check @x.a+y.b;}}");
        fault(4, "unit u{start{check u.@a+b;}}");
        fault(4, "unit u{fun f(){return @a;}}unit v{fun g(){return b;}}");
        fault(4, "unit u{test t{check v.@a;}}unit v{start{check b;}}");
        fine("unit u{start{check v.a;}}unit v{var a=1;}");
    }

    // ---- the promises 1 to 10

    private static void promise1() {
        Checks.says("An empty tape, no parcels; STEPS 200, SEED 1.");
        TestHouse x = new TestHouse();
        Checks.due("tape", x.cut(0), 0);
        Checks.due("tape", x.cut(1), BAD);
        Checks.due("tape", x.parcel(), -10);
        Checks.due("parcels", x.count(0, 0), 0);
        Checks.due("parcels", x.count(0, 1), BAD);
        Checks.due("STEPS", x.steps(200), 200);
        Checks.due("SEED", x.seed(1), 1);
        TestHouse y = Checks.house("unit u{test t{while 1{}}test s{check draw 100000==16838;}}");
        Checks.due("200 STEPS", y.alone(0, 0), 2);
        Checks.due("200 STEPS", y.told(2), 200);
        Checks.due("SEED 1", y.alone(0, 1), 1);
    }

    private static void promise2() {
        Checks.says("Five numbers, the highest byte of each first, come behind the tape as 20 bytes: how many it has. FULL: above 3000.");
        TestHouse x = new TestHouse();
        Checks.due("20", x.feed('u' << 24 | 'n' << 16 | 'i' << 8 | 't', ' ' << 24 | 'a' << 16 | 'b' << 8 | 'c', 'd' << 24 | 'e' << 16
                | 'f' << 8 | 'g', 'h' << 24 | '{' << 16 | '}' << 8 | ' ', 0x20202020), 20);
        Checks.due("parcel", x.parcel(), 0);
        Checks.dueRow("its bytes", i -> x.name(0, 0, 0, i), 'a', 'b', 'c', 'd', 'e', 'f', 'g', 'h', BAD);
        Checks.due("behind a parcel", x.feed(LEAST, GREATEST, -1, 0, 1), 20);
        Checks.due("behind the tape", x.feed(LEAST, GREATEST, -1, 0, 1), 40);
        for (int n = 3; n <= 149; n++) {
            x.feed(n, n, n, n, n);
        }
        Checks.due("2980", x.cut(0), 2980);
        Checks.due("2981 and 20", x.cut(0) + x.cut(0), 5960);
        Checks.due("3000", x.feed(0, 0, 0, 0, 0), 3000);
        Checks.due("FULL", x.feed(0, 0, 0, 0, 0), FULL);
        for (int n = 1; n <= 19; n++) {
            Checks.due("cut", x.cut(1), 3000 - n);
            Checks.due("FULL at " + (3000 - n), x.feed(0, 0, 0, 0, 0), FULL);
        }
        Checks.due("cut", x.cut(1), 2980);
        Checks.due("not FULL", x.feed(0, 0, 0, 0, 0), 3000);
    }

    private static void promise3() {
        Checks.says("The last n bytes of the tape go: how many are left. BAD: it has not so many, n below 0.");
        TestHouse x = new TestHouse();
        Checks.due("empty", x.cut(0), 0);
        Checks.due("empty", x.cut(1), BAD);
        Checks.feed(x, "unit u{}unit v{}!!!!");
        for (int n : new int[] {-1, LEAST, 21, GREATEST, LEAST + 20}) {
            Checks.due("cut " + n, x.cut(n), BAD);
            Checks.due("nothing went", x.cut(0), 20);
        }
        Checks.due("one", x.cut(1), 19);
        Checks.due("too many now", x.cut(20), BAD);
        Checks.due("the last ones", x.cut(3), 16);
        Checks.due("what is left", x.parcel(), 0);
        Checks.due("units", x.count(0, 1), 2);
        Checks.feed(x, "!!!!!!!!!!!!!!!!!!!!");
        Checks.due("all", x.cut(20), 0);
        Checks.feed(x, "unit w{}");
        Checks.due("behind what was cut", x.parcel(), 1);
    }

    private static void promise4() {
        Checks.says("The tape is a PARCEL (and is empty then): its number. FULL (the tape stays): there are 8. With a FAULT -10 less its "
                + "place.");
        TestHouse x = new TestHouse();
        for (int n = 0; n < 8; n++) {
            Checks.feed(x, "unit u" + n + "{}");
            Checks.due("number", x.parcel(), n);
            Checks.due("empty", x.cut(1), BAD);
            Checks.due("with a FAULT, place 0", x.parcel(), n < 7 ? -10 : FULL);
        }
        Checks.due("FULL, an empty tape", x.parcel(), FULL);
        Checks.feed(x, "unit u{}");
        Checks.due("FULL", x.parcel(), FULL);
        Checks.due("the tape stays", x.cut(0), 20);
        Checks.feed(x, "!");
        Checks.due("FULL ahead of a FAULT", x.parcel(), FULL);
        Checks.due("the tape stays", x.cut(0), 40);
        Checks.due("8", x.count(0, 0), 8);
        TestHouse y = new TestHouse();
        Checks.feedExactly(y, " ".repeat(2999) + "!");
        Checks.due("place 2999", y.parcel(), -10 - 2999);
        Checks.feedExactly(y, " ".repeat(3000));
        Checks.due("place 3000", y.parcel(), -10 - 3000);
        Checks.due("no parcel of a FAULT", y.count(0, 0), 0);
        Checks.due("the tape of a FAULT is empty", y.cut(0), 0);
    }

    private static void promise5() {
        Checks.says("The FAULT (1 .. 6) of the latest parcel() that was not FULL; 0: it had none, or none was asked.");
        TestHouse x = new TestHouse();
        Checks.due("none was asked", x.fault(), 0);
        String[] texts = {"!", ";", "unit u{}unit u{}", "unit u{start{a=1;}}", "unit u{row r[0];}", "unit u{start{}start{}}"};
        for (int n = 0; n < texts.length; n++) {
            Checks.parcel(x, texts[n]);
            Checks.due("FAULT", x.fault(), n + 1);
            Checks.feed(x, "unit u{}");
            Checks.due("a feed() asks nothing", x.fault(), n + 1);
            Checks.due("parcel", x.parcel(), n);
            Checks.due("it had none", x.fault(), 0);
        }
        Checks.parcel(x, "unit u{}");
        Checks.parcel(x, "!");
        Checks.due("1", x.fault(), 1);
        Checks.due("the 8th", Checks.parcel(x, "unit u{}"), 7);
        Checks.due("0", x.fault(), 0);
        Checks.due("FULL", Checks.parcel(x, "!"), FULL);
        Checks.due("that was FULL", x.fault(), 0);
        TestHouse y = new TestHouse();
        for (int n = 0; n < 8; n++) {
            Checks.parcel(y, "unit u{}");
        }
        Checks.due("FULL", Checks.parcel(y, "!"), FULL);
        Checks.due("that was FULL", y.fault(), 0);
    }

    private static final int[] FAR = {LEAST, -2, -1, 99, GREATEST};

    private static void promise6() {
        Checks.says("How many parcels (what = 0; p is not looked at); units of parcel p (1), members that are const, var, shared, row, fun "
                + "(2), instructions (3), CASES (4), props (5), MUTANTS (6). BAD.");
        TestHouse x = new TestHouse();
        for (int p : FAR) {
            Checks.due("no parcels", x.count(p, 0), 0);
        }
        Checks.parcel(x, "unit u{const a=1;var b=1;shared c=1;row d[1];fun e(){}start{}before{}after{}test f with 1,2{}prop g(h){}}");
        Checks.parcel(x, "unit u{}");
        Checks.dueRow("first", i -> x.count(0, i), 2, 1, 5, 12, 2, 1, 4, BAD);
        Checks.dueRow("empty", i -> x.count(1, i), 2, 1, 0, 0, 0, 0, 0, BAD);
        for (int far : FAR) {
            Checks.due("p is not looked at", x.count(far, 0), 2);
            Checks.due("p", x.count(far, 1), BAD);
            Checks.due("p", x.count(far, 6), BAD);
            Checks.due("what", x.count(0, far), BAD);
        }
        Checks.due("p", x.count(2, 3), BAD);
        Checks.due("what", x.count(0, 7), BAD);
    }

    private static void promise7() {
        Checks.says("Of member m (of those of count(p, 2), in the order of the text): 0 its unit, 1 its sort (0 const, 1 var, 2 shared, 3 "
                + "row, 4 fun), 2 whether it is own (1, 0), 3 the number told (of rows their size, of funs how many parameters), 4 its "
                + "first instruction (NONE but for funs). BAD.");
        TestHouse x = Checks.house("unit u{test t{}own const a=-7;fun b(c,d,e,f){}}unit v{row g[50];shared h=-0;own var i=9;fun j(){}}",
                "unit w{}");
        long[][] due = {{0, 0, 1, -7, NONE, BAD}, {0, 4, 0, 4, 2, BAD}, {1, 3, 0, 50, NONE, BAD}, {1, 2, 0, 0, NONE, BAD},
            {1, 1, 1, 9, NONE, BAD}, {1, 4, 0, 0, 4, BAD}};
        for (int m = 0; m < due.length; m++) {
            int at = m;
            Checks.dueRow("member " + m, i -> x.member(0, at, i), due[m]);
        }
        for (int far : FAR) {
            Checks.due("p", x.member(far, 0, 0), BAD);
            Checks.due("m", x.member(0, far, 0), BAD);
            Checks.due("what", x.member(0, 0, far), BAD);
        }
        Checks.due("m", x.member(0, 6, 0), BAD);
        Checks.due("none", x.member(1, 0, 0), BAD);
        Checks.due("p", x.member(2, 0, 0), BAD);
    }

    private static void promise8() {
        Checks.says("Of CASE c: 0 its unit, 1 its number of with (0 without), 2 the number of raises (0 without), 3 whether it is skip (1, "
                + "0), 4 the first instruction of its test. BAD. (1 may be any number.)");
        TestHouse x = Checks.house("unit u{fun f(){}test t{}}unit v{test s skip raises 999999999 with -1,-2,0,999999999{}"
                + "test r raises 1 with -999999999,3{}}", "unit w{}");
        long[][] due = {{0, 0, 0, 0, 2, BAD}, {1, -1, 999999999, 1, 4, BAD}, {1, -2, 999999999, 1, 4, BAD},
            {1, 0, 999999999, 1, 4, BAD}, {1, 999999999, 999999999, 1, 4, BAD}, {1, -999999999, 1, 0, 6, BAD}, {1, 3, 1, 0, 6, BAD}};
        for (int c = 0; c < due.length; c++) {
            int at = c;
            Checks.dueRow("CASE " + c, i -> x.about(0, at, i), due[c]);
        }
        for (int far : FAR) {
            Checks.due("p", x.about(far, 0, 0), BAD);
            Checks.due("c", x.about(0, far, 0), BAD);
            Checks.due("what", x.about(0, 0, far), BAD);
        }
        Checks.due("c", x.about(0, 7, 0), BAD);
        Checks.due("none", x.about(1, 0, 0), BAD);
        Checks.due("p", x.about(2, 0, 0), BAD);
    }

    private static void promise9() {
        Checks.says("Byte i of the NAME of unit (what = 0), member (1), CASE's test (2), prop k (3). BAD: also none such byte.");
        TestHouse x = Checks.house("unit a{var zyxwvuts=1;test t9 with 1,2{}prop q(b){}}unit eightchr{}");
        Checks.dueRow("a", i -> x.name(0, 0, 0, i), 'a', BAD, BAD);
        Checks.dueRow("eightchr", i -> x.name(0, 0, 1, i), 'e', 'i', 'g', 'h', 't', 'c', 'h', 'r', BAD, BAD);
        Checks.dueRow("zyxwvuts", i -> x.name(0, 1, 0, i), 'z', 'y', 'x', 'w', 'v', 'u', 't', 's', BAD);
        Checks.dueRow("t9", i -> x.name(0, 2, 0, i), 't', '9', BAD);
        Checks.dueRow("t9 once more", i -> x.name(0, 2, 1, i), 't', '9', BAD);
        Checks.dueRow("q", i -> x.name(0, 3, 0, i), 'q', BAD);
        for (int far : FAR) {
            Checks.due("p", x.name(far, 0, 0, 0), BAD);
            Checks.due("what", x.name(0, far, 0, 0), BAD);
            for (int what = 0; what < 4; what++) {
                Checks.due("k", x.name(0, what, far, 0), BAD);
                Checks.due("i", x.name(0, what, 0, far), BAD);
            }
        }
        Checks.due("what", x.name(0, 4, 0, 0), BAD);
        Checks.due("unit", x.name(0, 0, 2, 0), BAD);
        Checks.due("member", x.name(0, 1, 1, 0), BAD);
        Checks.due("CASE", x.name(0, 2, 2, 0), BAD);
        Checks.due("prop", x.name(0, 3, 1, 0), BAD);
    }

    private static void promise10() {
        Checks.says("Of instruction i: 0 its operation, 1 its number: what PUSH pushes, k of LOAD, STORE, the member of 3 to 7, where 24 to "
                + "26 lead; else 0. BAD.");
        TestHouse x = Checks.house("unit u{const k=-999999999;start{check k;check 999999999;while 1{}}}", "unit w{}");
        int[][] due = {{0, -999999999}, {28, 0}, {0, 999999999}, {28, 0}, {0, 1}, {24, 7}, {25, 4}, {0, 0}, {8, 0}};
        for (int i = 0; i < due.length; i++) {
            Checks.due("operation " + i, x.code(0, i, 0), due[i][0]);
            Checks.due("number " + i, x.code(0, i, 1), due[i][1]);
        }
        for (int far : FAR) {
            Checks.due("p", x.code(far, 0, 0), BAD);
            Checks.due("i", x.code(0, far, 0), BAD);
            Checks.due("what", x.code(0, 0, far), BAD);
        }
        Checks.due("i", x.code(0, 9, 0), BAD);
        Checks.due("what", x.code(0, 0, 2), BAD);
        Checks.due("none", x.code(1, 0, 0), BAD);
        Checks.due("p", x.code(2, 0, 0), BAD);
    }
}
