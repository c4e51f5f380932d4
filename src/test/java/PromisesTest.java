/** Each promise of the document by itself: ordinary inputs, the edges that it names, and wrong inputs. */
public final class PromisesTest {
    private static final Check CHECK = new Check();
    private static final String FORTY = "aaaaaaaaaabbbbbbbbbbccccccccccdddddddddd";
    private static final int[] NOT_PERMISSIONS = {0, 8, -1, 9, Integer.MIN_VALUE, Integer.MAX_VALUE};

    public static void main(String[] args) {
        newObject();
        type();
        typeOrder();
        rule();
        ruleFaults();
        ruleRefused();
        ruleAndTable();
        drop();
        rulesAndPieces();
        compile();
        compileCap();
        sets();
        states();
        next();
        gives();
        permissions();
        match();
        matchPieces();
        nothingIsLeft();
        walk();
        restart();
        place();
        way();
        CHECK.end();
    }

    private static GlobProfile compiled(String... globs) {
        GlobProfile x = new GlobProfile();
        for (String glob : globs) {
            Typist.allow(x, glob, 1);
        }
        CHECK.due("compile", x.compile(120) > 0, true);
        return x;
    }

    private static void noTable(String about, GlobProfile x) {
        CHECK.due(about + ": sets()", x.sets(), 0);
        CHECK.due(about + ": states()", x.states(), 0);
        CHECK.due(about + ": next(0, 0)", x.next(0, 0), -1);
        CHECK.due(about + ": gives(0)", x.gives(0), -1);
        CHECK.due(about + ": match()", x.match(), -1);
        CHECK.due(about + ": walk(97)", x.walk(97), -1);
        CHECK.due(about + ": restart()", x.restart(), false);
        CHECK.due(about + ": place()", x.place(), -1);
        CHECK.due(about + ": way(7)", x.way(7), -1);
    }

    private static void newObject() {
        GlobProfile x = new GlobProfile();
        CHECK.due("1: rules()", x.rules(), 0);
        CHECK.due("1: pieces(0)", x.pieces(0), -1);
        noTable("1", x);
        CHECK.due("1: nothing is typed", x.rule(true, 1), -1);
        GlobProfile y = new GlobProfile();
        Typist.allow(x, "a", 1);
        CHECK.due("1: objects share nothing", y.rules(), 0);
    }

    private static void type() {
        GlobProfile x = new GlobProfile();
        for (int n : new int[] {0, 5, -1, 8, Integer.MIN_VALUE, Integer.MAX_VALUE}) {
            CHECK.due("2: n " + n, x.type(0x61616161, n), false);
        }
        CHECK.due("2: 32", x.type(32, 1), false);
        CHECK.due("2: 127", x.type(127, 1), false);
        CHECK.due("2: 0", x.type(0, 1), false);
        CHECK.due("2: 255", x.type(-1, 1), false);
        CHECK.due("2: bad first of four", x.type(0x20616161, 4), false);
        CHECK.due("2: bad last of four", x.type(0x6161617F, 4), false);
        CHECK.due("2: bad, high bit, first of four", x.type(0xE1616161, 4), false);
        CHECK.due("2: 33", x.type(33, 1), true);
        CHECK.due("2: 126", x.type(126, 1), true);
        CHECK.due("2: only the n lowest count", x.type(0xFFFFFF61, 1), true);
        CHECK.due("2: only the n lowest count", x.type(0x00206161, 2), true);
        CHECK.due("2: rule", x.rule(true, 1), 0);
        CHECK.due("2: refused ones are not typed", x.pieces(0), 5);
        CHECK.due("2: forty", Typist.type(x, FORTY), true);
        CHECK.due("2: one more", x.type(97, 1), false);
        CHECK.due("2: rule", x.rule(true, 1), 1);
        CHECK.due("2: forty pieces", x.pieces(1), 40);
        Typist.type(x, FORTY.substring(2));
        CHECK.due("2: 38 and 3", x.type(0x616161, 3), false);
        CHECK.due("2: 38 and 2", x.type(0x6161, 2), true);
        CHECK.due("2: 40 and 1", x.type(97, 1), false);
    }

    private static void typeOrder() {
        GlobProfile x = new GlobProfile();
        x.type(0x61626364, 4);
        x.type(0x99656667, 3);
        x.type(0x9968, 1);
        x.rule(true, 1);
        x.compile(120);
        CHECK.due("2: the highest first", Typist.walk(x, "abcdefgh"), 1);
        CHECK.due("2: no other order", Typist.walk(x, "dcbagfeh"), 0);
    }

    private static void rule() {
        GlobProfile x = new GlobProfile();
        for (int k = 0; k < 6; k++) {
            CHECK.due("3: number", Typist.allow(x, "a", k + 1), k);
        }
        CHECK.due("3: a seventh", Typist.allow(x, "a", 7), -1000);
        CHECK.due("3: a seventh, faulty", Typist.allow(x, "a]", 7), -2);
        CHECK.due("3: what was typed is gone", x.rule(true, 1), -1);
        x.drop(2);
        CHECK.due("3: there is room again", Typist.deny(x, "b", 7), 5);
        CHECK.due("3: what was typed is gone", x.rule(true, 1), -1);
        x.compile(120);
        CHECK.due("3: permissions of five rules", Typist.match(x, "a"), 1 | 2 | 4 | 5 | 6);
    }

    private static void faultAt(String glob, int p) {
        GlobProfile x = new GlobProfile();
        CHECK.due("3: fault of " + glob, Typist.allow(x, glob, 1), -1 - p);
        CHECK.due("3: fault of " + glob + " before permissions", Typist.allow(x, glob, 0), p < 0 ? -1000 : -1 - p);
        CHECK.due("3: what was typed is gone", x.rule(true, 1), -1);
    }

    private static void ruleFaults() {
        String[] faulty = {"", "{a}0", "a}", "]", "[]0", "[", "[^]0", "[^^]0", "[a", "[a-]0", "[a-", "[b-a]0", "[-]0",
            "[a-b-c]", "[[", "[\\", "[a^]0", "\\", "a\\", "{", "{a,b", "{a,{b,{", "{a,{b", "{}0", "{{a,b}}", "{a,b}}", "[a-^",
            "[a-[", "[a--", "a{b,]", "{a,b}{c}", "{a,{b}", "{[a,b}", "{a\\}"};
        int[] at = {0, 2, 1, 0, 1, 1, 2, 2, 2, 3, 3, 3, 1, 4, 1, 1, 2, 1, 2, 1, 4, 6, 5, 1, 6, 5, 3, 3, 3, 4, 7, 5, 6, 4};
        for (int i = 0; i < faulty.length; i++) {
            faultAt(faulty[i], at[i]);
        }
        String[] good = {"a", ",", "a,b", "\\\\", "\\{", "\\]", "{,}", "{,,}", "{{,},}", "{a,{b,c}{d,e}}{f,g}", "[a-a]",
            "[,{}*?/]", "[!-Z]", "[^a]", "***", "-", "^", "a-b", "{[,],\\,}", "[/]", "~", "!", "\\~", "{\\{,}"};
        for (String glob : good) {
            faultAt(glob, -1);
        }
        for (char c : "[]^-\\".toCharArray()) {
            faultAt("[!-" + c, 3);
            faultAt("[!-" + c + "]", 3);
        }
        faultAt(FORTY.substring(1) + "{", 40);
    }

    private static void ruleRefused() {
        GlobProfile x = new GlobProfile();
        for (int permissions : NOT_PERMISSIONS) {
            CHECK.due("3: permissions " + permissions, Typist.allow(x, "a", permissions), -1000);
            CHECK.due("3: permissions " + permissions, Typist.deny(x, "a", permissions), -1000);
        }
        CHECK.due("3: no rule was made", x.rules(), 0);
        CHECK.due("3: forty pieces", Typist.allow(x, FORTY, 7), 0);
        CHECK.due("3: 61 pieces", Typist.allow(x, FORTY.substring(19), 7), -1000);
        CHECK.due("3: what was typed is gone", x.rule(true, 1), -1);
        CHECK.due("3: 60 pieces", Typist.allow(x, FORTY.substring(20), 7), 1);
        CHECK.due("3: 61 pieces", Typist.allow(x, "{,,*}", 7), -1000);
        CHECK.due("3: 60 pieces still", Typist.allow(x, "{,}", 7), 2);
        x.drop(1);
        CHECK.due("3: dropped pieces do not count", Typist.allow(x, FORTY.substring(20), 7), 2);
    }

    private static void ruleAndTable() {
        GlobProfile x = compiled("a*");
        x.walk('a');
        int place = x.place();
        CHECK.due("3: faulty", Typist.allow(x, "a]", 1), -2);
        CHECK.due("3: refused", Typist.allow(x, "a", 8), -1000);
        CHECK.due("3: the table stays", x.states(), 3);
        CHECK.due("3: the walk stays", x.place(), place);
        CHECK.due("3: the rule stays", Typist.match(x, "ab"), 1);
        Typist.allow(x, "b", 1);
        noTable("3: a new rule", x);
    }

    private static void drop() {
        GlobProfile x = new GlobProfile();
        CHECK.due("4: none", x.drop(0), false);
        Typist.allow(x, "a", 1);
        Typist.allow(x, "bb", 2);
        Typist.deny(x, "ccc", 4);
        Typist.allow(x, "ccc", 7);
        x.compile(120);
        for (int k : new int[] {-1, 4, 5, 6, 7, Integer.MIN_VALUE, Integer.MAX_VALUE}) {
            CHECK.due("4: drop " + k, x.drop(k), false);
        }
        CHECK.due("4: refused, the table stays", Typist.match(x, "ccc"), 3);
        CHECK.due("4: drop 1", x.drop(1), true);
        noTable("4", x);
        CHECK.due("4: one rule less", x.rules(), 3);
        CHECK.due("4: rule 0 stays", x.pieces(0), 1);
        CHECK.due("4: the one behind has its number", x.pieces(1), 3);
        CHECK.due("4: the last number is none", x.pieces(3), -1);
        x.compile(120);
        CHECK.due("4: a", Typist.match(x, "a"), 1);
        CHECK.due("4: bb", Typist.match(x, "bb"), 0);
        CHECK.due("4: ccc", Typist.match(x, "ccc"), 3);
        CHECK.due("4: drop the one that denies", x.drop(1), true);
        x.compile(120);
        CHECK.due("4: ccc", Typist.match(x, "ccc"), 7);
        Typist.type(x, "z");
        x.drop(1);
        CHECK.due("4: what is typed stays", x.rule(true, 4), 1);
        CHECK.due("4: its piece", x.pieces(1), 1);
        x.compile(120);
        CHECK.due("4: a slot used again has nothing of before", Typist.match(x, "ccc"), 0);
        CHECK.due("4: z", Typist.match(x, "z"), 4);
        CHECK.due("4: drop 1", x.drop(1), true);
        CHECK.due("4: drop 0", x.drop(0), true);
        CHECK.due("4: drop of none", x.drop(0), false);
        CHECK.due("4: none is there", x.rules(), 0);
    }

    private static void rulesAndPieces() {
        GlobProfile x = new GlobProfile();
        String[] globs = {"{a,b{c,}}d[x-z.]", "***", "\\a\\*?", "{,}", "[^a-c]****"};
        int[] pieces = {5, 2, 3, 0, 3};
        for (int k = 0; k < globs.length; k++) {
            CHECK.due("5: rules", x.rules(), k);
            Typist.allow(x, globs[k], 1);
            CHECK.due("6: pieces of " + globs[k], x.pieces(k), pieces[k]);
            CHECK.due("6: no rule yet", x.pieces(k + 1), -1);
        }
        CHECK.due("5: rules", x.rules(), 5);
        Typist.allow(x, "a]", 1);
        CHECK.due("5: rules", x.rules(), 5);
        Typist.allow(x, "a", 1);
        CHECK.due("5: rules", x.rules(), 6);
        for (int k : new int[] {-1, 6, 7, Integer.MIN_VALUE, Integer.MAX_VALUE}) {
            CHECK.due("6: pieces " + k, x.pieces(k), -1);
        }
    }

    private static void compile() {
        GlobProfile x = new GlobProfile();
        CHECK.due("7: no rules", x.compile(120), 1);
        Typist.allow(x, "ab", 1);
        CHECK.due("7: ab", x.compile(120), 4);
        x.walk('a');
        Typist.type(x, "ab");
        CHECK.due("7: again", x.compile(120), 4);
        CHECK.due("7: the walk is at state 0", x.place(), 0);
        CHECK.due("7: what is typed stays", x.match(), 1);
        x.walk('a');
        int place = x.place();
        for (int cap : new int[] {0, 121, -1, Integer.MIN_VALUE, Integer.MAX_VALUE}) {
            CHECK.due("7: cap " + cap, x.compile(cap), -2);
        }
        CHECK.due("7: refused, the table stays", x.states(), 4);
        CHECK.due("7: refused, the walk stays", x.place(), place);
        CHECK.due("7: too many sets", x.compile(3), -1);
        noTable("7", x);
        CHECK.due("7: the rules stay", x.compile(4), 4);
    }

    private static void compileCap() {
        GlobProfile x = new GlobProfile();
        CHECK.due("7: no rules, cap 1", x.compile(1), -1);
        CHECK.due("7: no rules, cap 2", x.compile(2), 1);
        Typist.allow(x, FORTY, 1);
        Typist.allow(x, "zzzzzzzzzzzzzzzzzzzz", 1);
        CHECK.due("7: 60 pieces, cap 61", x.compile(61), -1);
        CHECK.due("7: 60 pieces, cap 62", x.compile(62), 61);
        GlobProfile y = new GlobProfile();
        Typist.allow(y, "**a??????", 1);
        CHECK.due("7: 129 sets, cap 120", y.compile(120), -1);
        GlobProfile z = new GlobProfile();
        Typist.allow(z, "**a?????", 1);
        Typist.allow(z, FORTY, 2);
        CHECK.due("7: 65 sets and more", z.compile(120), z.states());
        CHECK.due("7: 65 sets and more, cap", z.compile(z.sets()) > 0, true);
        CHECK.due("7: 65 sets and more, less cap", z.compile(z.sets() - 1), -1);
    }

    private static void sets() {
        CHECK.due("8: no rules", compiled().sets(), 2);
        CHECK.due("8: **, the empty path's set is its own", compiled("**").sets(), 2);
        CHECK.due("8: *", compiled("*").sets(), 3);
        CHECK.due("8: a, with the set of no pieces", compiled("a").sets(), 3);
        CHECK.due("8: two rules alike are two pieces", compiled("a", "a").sets(), 3);
        CHECK.due("8: {a,b}: two pieces", compiled("{a,b}").sets(), 4);
        CHECK.due("8: [ab]: one piece", compiled("[ab]").sets(), 3);
        CHECK.due("8: **???", compiled("**???").sets(), 5);
        CHECK.due("8: **a??", compiled("**a??").sets(), 9);
        CHECK.due("8: {,}", compiled("{,}").sets(), 2);
        CHECK.due("8: [/]", compiled("[/]").sets(), 2);
    }

    private static void states() {
        CHECK.due("9: no rules", compiled().states(), 1);
        CHECK.due("9: **", compiled("**").states(), 1);
        CHECK.due("9: *", compiled("*").states(), 2);
        CHECK.due("9: {a,b} as few as [ab]", compiled("{a,b}").states(), 3);
        CHECK.due("9: ** swallows all", compiled("**", "a/b", "{c,d}").states(), 1);
        GlobProfile x = new GlobProfile();
        Typist.allow(x, "a*b", 3);
        Typist.deny(x, "**", 3);
        x.compile(120);
        CHECK.due("9: all denied", x.states(), 1);
        GlobProfile y = new GlobProfile();
        Typist.allow(y, "a", 1);
        Typist.allow(y, "b", 2);
        y.compile(120);
        CHECK.due("9: other permissions, other states", y.states(), 4);
    }

    private static void next() {
        GlobProfile x = compiled("{b,a}c");
        CHECK.due("10: byte 0 comes first", x.next(0, 0), 1);
        CHECK.due("10: byte 255 as byte 0", x.next(0, 255), 1);
        CHECK.due("10: a", x.next(0, 'a'), 2);
        CHECK.due("10: b is alike", x.next(0, 'b'), 2);
        CHECK.due("10: c", x.next(2, 'c'), 3);
        CHECK.due("10: nothing leads back", x.next(1, 'a'), 1);
        int[][] wrong = {{-1, 0}, {4, 0}, {0, -1}, {0, 256}, {Integer.MAX_VALUE, 1}, {Integer.MIN_VALUE, 1},
            {1, Integer.MAX_VALUE}, {1, Integer.MIN_VALUE}, {120, 255}};
        for (int[] pair : wrong) {
            CHECK.due("10: next " + pair[0] + " " + pair[1], x.next(pair[0], pair[1]), -1);
        }
        GlobProfile y = compiled("z", "?a", "~b");
        CHECK.due("10: by rising bytes: 0", y.next(0, 0), 1);
        CHECK.due("10: by rising bytes: /", y.next(0, '/'), 2);
        CHECK.due("10: by rising bytes: z", y.next(0, 'z'), 3);
        CHECK.due("10: by rising bytes: ~", y.next(0, '~'), 4);
        CHECK.due("10: from state 1 then", y.next(1, 'a'), 5);
        CHECK.due("10: from state 4", y.next(4, 'b'), 5);
    }

    private static void gives() {
        GlobProfile x = new GlobProfile();
        Typist.allow(x, "{,a}", 5);
        Typist.allow(x, "b", 2);
        x.compile(120);
        CHECK.due("11: the empty path", x.gives(0), 5);
        CHECK.due("11: nothing", x.gives(1), 0);
        CHECK.due("11: a", x.gives(2), 5);
        CHECK.due("11: b", x.gives(3), 2);
        CHECK.due("11: the empty path, by the second rule", compiled("b", "*").gives(0), 1);
        CHECK.due("11: the empty path, by none", compiled("b", "?").gives(0), 0);
        for (int s : new int[] {-1, 4, 119, 120, Integer.MIN_VALUE, Integer.MAX_VALUE}) {
            CHECK.due("11: state " + s, x.gives(s), -1);
        }
    }

    private static void permissions() {
        GlobProfile x = new GlobProfile();
        Typist.allow(x, "*", 1);
        Typist.deny(x, "?a", 3);
        Typist.allow(x, "b*", 6);
        x.compile(120);
        CHECK.due("12: one allows", Typist.match(x, "c"), 1);
        CHECK.due("12: two allow", Typist.match(x, "bb"), 7);
        CHECK.due("12: denied, whatever the order", Typist.match(x, "ba"), 4);
        CHECK.due("12: all denied", Typist.match(x, "ca"), 0);
        CHECK.due("12: none matches", Typist.match(x, "a/b"), 0);
    }

    private static void onlyRule(GlobProfile x, String glob, String yes, String no) {
        x.drop(0);
        Typist.allow(x, glob, 1);
        x.compile(120);
        CHECK.due("12: only rule " + glob + ": " + yes, Typist.match(x, yes), 1);
        CHECK.due("12: only rule " + glob + ": " + no, Typist.match(x, no), 0);
    }

    private static void nothingIsLeft() {
        GlobProfile x = new GlobProfile();
        onlyRule(x, "{a,b}", "b", "ab");
        onlyRule(x, "ab", "ab", "b");
        onlyRule(x, "{a,b}", "b", "ab");
        onlyRule(x, "a", "a", "b");
        onlyRule(x, "b", "b", "a");
    }

    private static void match() {
        GlobProfile x = new GlobProfile();
        Typist.type(x, "{,ab}");
        CHECK.due("12: no table", x.match(), -1);
        CHECK.due("12: refused, what is typed stays", x.rule(true, 6), 0);
        x.compile(120);
        CHECK.due("12: the empty path", x.match(), 6);
        x.walk('a');
        int place = x.place();
        CHECK.due("12: ab", Typist.match(x, "ab"), 6);
        CHECK.due("12: nothing is typed then", x.match(), 6);
        CHECK.due("12: a", Typist.match(x, "a"), 0);
        CHECK.due("12: the walk stays", x.place(), place);
        GlobProfile y = compiled(FORTY);
        CHECK.due("12: forty", Typist.match(y, FORTY), 1);
        CHECK.due("12: not forty", Typist.match(y, FORTY.substring(1)), 0);
    }

    private static void matches(String glob, String yes, String no) {
        GlobProfile x = compiled(glob);
        for (String path : yes.split(" ")) {
            CHECK.due("12: " + glob + " " + path, Typist.match(x, path), 1);
            CHECK.due("13: " + glob + " " + path, Typist.walk(x, path), 1);
        }
        for (String path : no.split(" ")) {
            CHECK.due("12: " + glob + " " + path, Typist.match(x, path), 0);
            CHECK.due("13: " + glob + " " + path, Typist.walk(x, path), 0);
        }
    }

    private static void matchPieces() {
        matches("a?c", "abc a?c", "a/c ac abbc");
        matches("*", "a ab .", "/ a/b");
        matches("/*", "/ /a /ab", "a // /a/");
        matches("a**", "a a/ a/b/c ab", "b /a");
        matches("a***b", "ab a/b a/xb", "a b a/");
        matches("[a-c,.]", "a b c , .", "d - /");
        matches("[.-0]", ". 0", "/ - 1");
        matches("[^a-c]", "d ^ -", "a b c / dd");
        matches("[^.]x", "ax", ".x /x");
        matches("[*?{}]", "* ? { }", "a");
        matches("\\*\\?\\[\\\\", "*?[\\", "aaaa a");
        matches("\\/\\a", "/a", "a");
        matches("a,b", "a,b", "a b");
        matches("{a,b}c", "ac bc", "c abc a,bc");
        matches("{a,b,c,}d", "ad bd cd d", "abd abcd a");
        matches("x{a,{b,}{c,d}}y", "xay xbcy xcy xdy xbdy", "xy xby xacy");
        matches("{\\,,[,]x}", ", ,x", "x");
        matches("{*,a/}b", "b ab aab a/b", "a/ /b");
        matches("{a,}{a,}{a,}b", "b ab aab aaab", "aaaab a");
        matches("*{*,b}*", "a abc b", "/ a/");
        matches("*a*/b", "a/b xax/b", "a/b/ /b x/b");
        CHECK.due("13: ? and bytes that cannot be typed", Typist.walk(compiled("?*[^a]"), "\0\377\37\177"), 1);
        CHECK.due("13: ** and bytes that cannot be typed", Typist.walk(compiled("**"), "\0/\377"), 1);
        CHECK.due("13: [!-~] and bytes that cannot be typed", Typist.walk(compiled("[!-~]"), " "), 0);
        CHECK.due("13: [!-~] and bytes that cannot be typed", Typist.walk(compiled("[!-~]"), "\177"), 0);
        CHECK.due("13: [^!-~]", Typist.walk(compiled("[^!-~]"), "\200"), 1);
    }

    private static void walk() {
        GlobProfile x = compiled("ab/*");
        CHECK.due("13: a", x.walk('a'), 0);
        CHECK.due("13: ab", x.walk('b'), 0);
        int place = x.place();
        for (int b : new int[] {-1, 256, Integer.MIN_VALUE, Integer.MAX_VALUE}) {
            CHECK.due("13: byte " + b, x.walk(b), -1);
            CHECK.due("13: refused, it stays where it is", x.place(), place);
        }
        CHECK.due("13: ab/", x.walk('/'), 1);
        CHECK.due("13: byte 0", x.walk(0), 1);
        CHECK.due("13: byte 255", x.walk(255), 1);
        CHECK.due("13: one more /", x.walk('/'), 0);
        Typist.type(x, "ab/");
        x.walk('a');
        CHECK.due("13: what is typed stays", x.match(), 1);
    }

    private static void restart() {
        GlobProfile x = compiled("ab");
        x.walk('a');
        CHECK.due("14: restart", x.restart(), true);
        CHECK.due("14: at 0", x.place(), 0);
        CHECK.due("14: anew: a", x.walk('a'), 0);
        CHECK.due("14: anew: ab", x.walk('b'), 1);
        x.compile(1);
        CHECK.due("14: no table", x.restart(), false);
    }

    private static void place() {
        GlobProfile x = compiled("ab");
        CHECK.due("15: at 0", x.place(), 0);
        x.walk('a');
        CHECK.due("15: a", x.place(), x.next(0, 'a'));
        CHECK.due("15: a", x.place(), 2);
        x.walk('b');
        CHECK.due("15: ab", x.place(), 3);
        x.walk('b');
        CHECK.due("15: abb", x.place(), 1);
        x.drop(0);
        CHECK.due("15: no table", x.place(), -1);
        x.compile(120);
        CHECK.due("15: a new table", x.place(), 0);
    }

    private static void way() {
        GlobProfile x = new GlobProfile();
        Typist.allow(x, "{a,ma}", 1);
        Typist.allow(x, "{c,b,m?}", 2);
        Typist.deny(x, "**", 4);
        x.compile(120);
        CHECK.due("16: 1", x.way(1), 'a');
        CHECK.due("16: 2", x.way(2), 'b');
        CHECK.due("16: one of 3", x.way(3), 'a');
        CHECK.due("16: 4, denied", x.way(4), -1);
        CHECK.due("16: one of 6", x.way(6), 'b');
        CHECK.due("16: 0", x.way(0), -1);
        CHECK.due("16: 8", x.way(8), -1);
        CHECK.due("16: 10", x.way(10), 'b');
        CHECK.due("16: it stays where it is", x.place(), 0);
        x.walk('m');
        CHECK.due("16: 1 behind m", x.way(1), 'a');
        CHECK.due("16: the least byte is 0", x.way(2), 0);
        x.walk('m');
        CHECK.due("16: none, two steps would be needed", x.way(3), -1);
        x.compile(1);
        CHECK.due("16: no table", x.way(1), -1);
        CHECK.due("16: a way in two steps is none", compiled("ab").way(1), -1);
        CHECK.due("16: greatest character", compiled("~").way(1), '~');
        GlobProfile y = compiled("\\/?");
        y.walk('/');
        CHECK.due("16: ? by 0", y.way(1), 0);
    }
}
