/** The sentences of the document's terms on profiles, sets and states: each one's edges. */
public final class ProfileTermsTest {
    private static final Check CHECK = new Check();
    private static final String TEN = "abcdefghij";
    /** Subsets of six pieces behind **, paths of up to four bytes apart from longer ones, and a chain of 25. */
    private static final String[] SETS_120 = {"1:**a?????", "2:????", "4:" + "z".repeat(25)};
    private static final String[] SETS_121 = {"1:**a?????", "2:????", "4:" + "z".repeat(26)};
    private static final String[][] PROFILES = {{}, {"a"}, {"**"}, {"*"}, {"{z,!y,~x}"}, {"/a/*", "2:/a/**", "-1:/a/b?"},
        {"[^a]b", "2:?c"}, {"{aab,cd}"}, {"{ba,ab}{c,}"}, {"~", "2:!", "4:0"}, {"**/a", "2:*"}, {"7:{,a}**b", "-2:?*"},
        SETS_120};

    public static void main(String[] args) {
        sixRules();
        permissionsOneToSeven();
        sixtyPieces();
        theSixtiethPieceReads();
        whatCountsAsPieces();
        hasPermissions();
        ownSetOfTheEmptyPath();
        setOfNoPieces();
        oneRowOfEachChoice();
        eachPieceOnce();
        piecesOfAllRules();
        goingOnBehind();
        setsAndCap();
        as120AndMoreSets();
        asFewAsCanBe();
        alikeByAllBytes();
        alikeByAllPermissions();
        numberedInOrder();
        numberedByRisingBytes();
        numberedFromStateToState();
        fullTable();
        CHECK.end();
    }

    /** "A PROFILE has at most 6 RULES, numbered from 0". */
    private static void sixRules() {
        GlobProfile x = new GlobProfile();
        for (int k = 0; k < 6; k++) {
            CHECK.due("rule " + k, Typist.allow(x, "a", 1), k);
        }
        CHECK.due("a seventh rule", Typist.allow(x, "a", 1), -1000);
        CHECK.due("rules", x.rules(), 6);
        x.drop(5);
        CHECK.due("a sixth rule again", Typist.deny(x, "a", 1), 5);
        CHECK.due("a seventh rule", Typist.deny(x, "a", 1), -1000);
        x.drop(0);
        CHECK.due("a sixth rule again", Typist.allow(x, "a", 1), 5);
    }

    /** "a set of PERMISSIONS (1 .. 7, bits)". */
    private static void permissionsOneToSeven() {
        for (int permissions = 0; permissions <= 8; permissions++) {
            GlobProfile x = new GlobProfile();
            boolean taken = permissions >= 1 && permissions <= 7;
            CHECK.due("rule with " + permissions, Typist.allow(x, "a", permissions), taken ? 0 : -1000);
            x.compile(120);
            CHECK.due("permissions " + permissions, Typist.match(x, "a"), taken ? permissions : 0);
            GlobProfile y = Profiles.of("7:**");
            CHECK.due("denying rule with " + permissions, Typist.deny(y, "a", permissions), taken ? 1 : -1000);
            y.compile(120);
            CHECK.due("denied " + permissions, Typist.match(y, "a"), taken ? 7 - permissions : 7);
            CHECK.due("not denied " + permissions, Typist.match(y, "b"), 7);
        }
    }

    /** "all globs together have at most 60 pieces". */
    private static void sixtyPieces() {
        CHECK.due("60 in two rules", Profiles.of(TEN.repeat(4), TEN.repeat(2)).rules(), 2);
        CHECK.due("61 in two rules", Profiles.of(TEN.repeat(4), TEN.repeat(2) + "a").rules(), 1);
        CHECK.due("80 in two rules", Profiles.of(TEN.repeat(4), TEN.repeat(4)).rules(), 1);
        CHECK.due("60 in six rules", Profiles.of(TEN, TEN, TEN, TEN, TEN, TEN).rules(), 6);
        CHECK.due("61 in six rules", Profiles.of(TEN, TEN, TEN, TEN, TEN, TEN + "a").rules(), 5);
        CHECK.due("59 and 1", Profiles.of(TEN.repeat(4), TEN + TEN.substring(1), "a").rules(), 3);
        CHECK.due("59 and 2", Profiles.of(TEN.repeat(4), TEN + TEN.substring(1), "aa").rules(), 2);
        CHECK.due("60 and none", Profiles.of(TEN.repeat(4), TEN.repeat(2), "{,}").rules(), 3);
        CHECK.due("denying ones count", Profiles.of("-1:" + TEN.repeat(4), "-1:" + TEN.repeat(2), "a").rules(), 2);
        GlobProfile x = Profiles.of(TEN.repeat(4), TEN.repeat(2));
        x.drop(1);
        CHECK.due("behind a drop 21 are too many", Typist.allow(x, TEN.repeat(2) + "a", 1), -1000);
        CHECK.due("behind a drop 20 are not", Typist.allow(x, TEN.repeat(2), 1), 1);
        x.drop(0);
        CHECK.due("behind a drop 40 are not", Typist.allow(x, TEN.repeat(4), 1), 1);
        CHECK.due("60 again", Typist.allow(x, "*", 1), -1000);
    }

    private static void theSixtiethPieceReads() {
        GlobProfile x = Profiles.compiled("1:" + "a".repeat(40), "2:" + "b".repeat(19) + "*");
        CHECK.due("the last not at all", Typist.match(x, "b".repeat(19)), 2);
        CHECK.due("the last once", Typist.match(x, "b".repeat(20)), 2);
        CHECK.due("the last many times", Typist.match(x, "b".repeat(19) + "c".repeat(21)), 2);
        CHECK.due("the last and a /", Typist.match(x, "b".repeat(19) + "c/"), 0);
        GlobProfile y = Profiles.compiled("1:" + "a".repeat(40), "2:" + "b".repeat(20));
        CHECK.due("the first 40", Typist.match(y, "a".repeat(40)), 1);
        CHECK.due("the last 20", Typist.match(y, "b".repeat(20)), 2);
        CHECK.due("one less", Typist.match(y, "b".repeat(19)), 0);
        CHECK.due("one more", Typist.match(y, "b".repeat(21)), 0);
    }

    private static void whatCountsAsPieces() {
        String full = "ab".repeat(19);
        CHECK.due("{a,b} are two pieces", Profiles.of(TEN.repeat(4), full.substring(20), "{a,b}", "a").rules(), 3);
        CHECK.due("[ab] is one piece", Profiles.of(TEN.repeat(4), full.substring(20), "[ab]", "a", "a").rules(), 4);
        CHECK.due("** is one piece", Profiles.of(TEN.repeat(4), full.substring(20), "**", "a", "a").rules(), 4);
        CHECK.due("*** are two pieces", Profiles.of(TEN.repeat(4), full.substring(20), "***", "a").rules(), 3);
        CHECK.due("\\a is one piece", Profiles.of(TEN.repeat(4), full.substring(20), "\\a", "a", "a").rules(), 4);
    }

    private static void has(int permissions, String path, String... rules) {
        CHECK.due(path + " with " + String.join(" ", rules), Typist.match(Profiles.compiled(rules), path), permissions);
    }

    /** "in a rule that allows and whose glob matches the path, and in none that denies and does". */
    private static void hasPermissions() {
        has(0, "a");
        has(0, "");
        has(0, "b", "7:a");
        has(0, "a", "-7:a");
        has(3, "a", "1:a", "2:?");
        has(1, "a", "3:a", "-2:a");
        has(1, "a", "-2:a", "3:a");
        has(3, "a", "3:a", "-2:b");
        has(0, "a", "1:a", "2:a", "4:a", "-1:a", "-2:a", "-4:a");
        has(6, "a", "1:a", "2:a", "4:a", "-1:?", "-2:b", "-4:**b");
        has(5, "", "5:*", "2:?", "-7:?");
        has(0, "", "5:*", "-7:{,a}");
        for (int permissions = 1; permissions <= 7; permissions++) {
            has(0, "a", "-" + permissions + ":a");
            has(permissions, "a", permissions + ":a");
            has(7 - permissions, "a", "7:a", "-" + permissions + ":?");
        }
    }

    private static void sets(int sets, String... rules) {
        CHECK.due("sets of " + String.join(" ", rules), Profiles.compiled(rules).sets(), sets);
        GlobProfile x = Profiles.of(rules);
        CHECK.due("as many as the cap: " + String.join(" ", rules), x.compile(sets) > 0, true);
        CHECK.due("more than the cap: " + String.join(" ", rules), x.compile(sets - 1), -1);
    }

    /** "the empty path has a set of its own". */
    private static void ownSetOfTheEmptyPath() {
        sets(2);
        sets(2, "**");
        sets(2, "**", "2:**");
        sets(2, "{,}");
        sets(3, "*");
    }

    /** Where no piece can read a path's last byte, its set has no pieces, and is one of those that there are. */
    private static void setOfNoPieces() {
        sets(3, "a");
        sets(3, "?");
        sets(2, "[/]");
        sets(3, "**", "a");
    }

    /** "a way through a glob takes of each choice one row". */
    private static void oneRowOfEachChoice() {
        sets(4, "{a,b}");
        sets(3, "[ab]");
        sets(3, "{a,a}");
        sets(6, "{ab,cb}");
        sets(5, "{ab,ac}");
        sets(5, "{a,b}{,c}");
        sets(6, "{a,{b,c}}d");
    }

    /** "and each piece once, but * and ** any number of times". */
    private static void eachPieceOnce() {
        sets(4, "aa");
        sets(5, "**???");
        sets(9, "**a??");
        sets(4, "*a");
        sets(3, "**a");
        sets(4, "***a");
        sets(42, "a".repeat(40));
    }

    /** "the pieces, of all rules". */
    private static void piecesOfAllRules() {
        sets(3, "a", "a");
        sets(4, "a", "b");
        sets(4, "a", "?");
        sets(4, "a", "-1:b");
        sets(62, "a".repeat(40), "b".repeat(20));
    }

    /** "that can read its last byte in a way that reads the path, maybe going on behind it". */
    private static void goingOnBehind() {
        sets(4, "ab");
        sets(5, "abc");
        sets(5, "a{b,c}");
        sets(4, "a{b,}");
        sets(5, "a*b");
    }

    /** "COMPILING counts the sets that there are; if they are more than its CAP, it ends so." */
    private static void setsAndCap() {
        for (int length = 1; length <= 40; length++) {
            sets(length + 2, "a".repeat(length));
        }
        GlobProfile x = Profiles.compiled("ab");
        CHECK.due("cap 3 for four sets", x.compile(3), -1);
        CHECK.due("no table then", x.states(), 0);
        CHECK.due("cap 4 for four sets", x.compile(4), 4);
        CHECK.due("the sets that there are, not the cap", x.compile(120), 4);
        CHECK.due("sets", x.sets(), 4);
        // Cap is for sets, not for states: there are three sets, and one state.
        GlobProfile y = Profiles.of("**", "a");
        CHECK.due("cap 2 for three sets and one state", y.compile(2), -1);
        CHECK.due("cap 3 for three sets and one state", y.compile(3), 1);
    }

    private static void as120AndMoreSets() {
        sets(120, SETS_120);
        CHECK.due("121 sets, cap 120", Profiles.of(SETS_121).compile(120), -1);
        CHECK.due("129 sets, cap 120", Profiles.of("**a??????").compile(120), -1);
        CHECK.due("very many sets, cap 120", Profiles.of("**a" + "?".repeat(37)).compile(120), -1);
        CHECK.due("very many sets, cap 1", Profiles.of("**a" + "?".repeat(37)).compile(1), -1);
        CHECK.due("very many sets of 60 pieces", Profiles.of("**a" + "?".repeat(37), "**b" + "?".repeat(18)).compile(120), -1);
    }

    private static void states(int states, String... rules) {
        GlobProfile x = Profiles.of(rules);
        CHECK.due("compile of " + String.join(" ", rules), x.compile(120), states);
        CHECK.due("states of " + String.join(" ", rules), x.states(), states);
    }

    /** "two paths are ALIKE if, whatever bytes are put behind both, they have the same permissions then". */
    private static void asFewAsCanBe() {
        states(1);
        states(1, "**");
        states(1, "-7:a");
        states(1, "3:a*b", "-3:**");
        states(1, "**", "a/b", "{c,d}");
        states(1, "[/]");
        states(1, "a[/]");
        states(2, "{,}");
        states(2, "*");
        states(3, "?");
        states(3, "{a,b}");
        states(4, "{ab,cb}");
        states(4, "{ab,cb,{d,e}b}");
        states(2, "{*,*a*}{,b}*");
        states(42, "a".repeat(40));
        states(62, "a".repeat(40), "2:" + "b".repeat(20));
        // The empty path is alike with those whose set is of ** alone.
        states(8, "**a??");
    }

    /** Paths that only some bytes that cannot be typed tell apart are not alike. */
    private static void alikeByAllBytes() {
        states(4, "{a?,b[^/]}");
        states(5, "{a?,b[!-.0-~]}");
        states(5, "{a?,b[^a]}");
        states(4, "{a**,b*}");
        states(6, "{a?,b?{,c}}");
    }

    private static void alikeByAllPermissions() {
        states(3, "1:a", "1:b");
        states(4, "1:a", "2:b");
        states(5, "1:a", "2:b", "3:c");
        states(3, "1:a", "2:b", "3:[ab]");
        states(3, "3:a", "1:b", "-2:a");
        states(4, "3:a", "1:b", "-2:c");
    }

    /** "numbered from 0, the empty path's, in the order in which they are come to". */
    private static void numberedInOrder() {
        for (String[] rules : PROFILES) {
            int[][] rows = Profiles.table(rules);
            int comeTo = 1;
            for (int s = 0; s < rows.length && s < comeTo; s++) {
                for (int b = 0; b < 256; b++) {
                    boolean inOrder = rows[s][b] >= 0 && rows[s][b] <= comeTo && rows[s][b] < rows.length;
                    CHECK.due(String.join(" ", rules) + ": next " + s + " " + b + " is in order", inOrder, true);
                    comeTo += rows[s][b] == comeTo ? 1 : 0;
                }
            }
            CHECK.due(String.join(" ", rules) + ": states that are come to", comeTo, rows.length);
        }
    }

    private static void leads(GlobProfile x, int s, int b, int to) {
        CHECK.due("next " + s + " " + b, x.next(s, b), to);
    }

    /** "each by rising bytes". */
    private static void numberedByRisingBytes() {
        GlobProfile x = Profiles.compiled("1:~", "2:!", "4:0");
        leads(x, 0, 0, 1);
        leads(x, 0, '!', 2);
        leads(x, 0, '0', 3);
        leads(x, 0, '~', 4);
        leads(x, 0, 127, 1);
        leads(x, 0, 255, 1);
        GlobProfile y = Profiles.compiled("?");
        leads(y, 0, 0, 1);
        leads(y, 0, '/', 2);
        leads(y, 0, 255, 1);
        GlobProfile z = Profiles.compiled("1:[^!-~]", "2:!");
        leads(z, 0, 0, 1);
        leads(z, 0, 32, 1);
        leads(z, 0, 33, 2);
        leads(z, 0, 34, 3);
        leads(z, 0, 126, 3);
        leads(z, 0, 127, 1);
        leads(z, 0, 255, 1);
    }

    /** "from state 0, then from state 1, and so on". */
    private static void numberedFromStateToState() {
        GlobProfile x = Profiles.compiled("{aab,cd}");
        leads(x, 0, 'a', 2);
        leads(x, 0, 'c', 3);
        leads(x, 2, 'a', 4);
        leads(x, 3, 'd', 5);
        leads(x, 4, 'b', 5);
        GlobProfile y = Profiles.compiled("1:{zb,ac}", "2:z");
        leads(y, 0, 'a', 2);
        leads(y, 0, 'z', 3);
        leads(y, 2, 'c', 4);
        leads(y, 3, 'b', 4);
    }

    /** As many states as there can be sets. */
    private static void fullTable() {
        states(120, SETS_120);
        GlobProfile x = Profiles.compiled(SETS_120);
        for (int s = 0; s < 120; s++) {
            CHECK.due("gives " + s + " is there", x.gives(s) >= 0, true);
            CHECK.due("next " + s + " 0 is there", x.next(s, 0) >= 0, true);
            CHECK.due("next " + s + " 255 is there", x.next(s, 255) >= 0, true);
        }
        CHECK.due("gives 120", x.gives(120), -1);
        CHECK.due("next 120 0", x.next(120, 0), -1);
        CHECK.due("z 25 times", Typist.match(x, "z".repeat(25)), 4);
        CHECK.due("z 26 times", Typist.match(x, "z".repeat(26)), 0);
        CHECK.due("an a and five", Typist.match(x, "bazzzzz"), 1);
        CHECK.due("an a and four", Typist.match(x, "bazzzz"), 0);
        CHECK.due("four bytes", Typist.match(x, "abcd"), 2);
    }
}
