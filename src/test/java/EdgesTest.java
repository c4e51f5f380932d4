import java.util.List;
import java.util.function.ToIntFunction;

/**
 * Each promise's edges: for every argument the last value that is taken and the first that is refused on each side, and
 * those at which numbers wrap around; for every row what is empty and what is full.
 */
public final class EdgesTest {
    private static final Check CHECK = new Check();
    private static final List<Integer> NUMBERS = Numbers.all();
    private static final String[] SETS_120 = {"1:**a?????", "2:????", "4:" + "z".repeat(25)};

    public static void main(String[] args) {
        newObject();
        typeLengths();
        typeBytes();
        typeBytesAboveAreNotLookedAt();
        typeHighestFirst();
        typeUpToForty();
        typeBehindFull();
        typeAllOrNothing();
        rulePermissions();
        ruleOrderOfLooking();
        ruleTakesTyped();
        ruleTakesTheTable();
        dropNumbers();
        dropMovesNumbers();
        dropMakesRoom();
        dropFirstAndLast();
        rulesFromNoneToSix();
        piecesNumbers();
        piecesFromNoneToForty();
        compileCaps();
        compileCapsOfAFullTable();
        compileBeginsTheWalk();
        compileTooManySets();
        setsWithoutTable();
        statesWithoutTable();
        nextWithoutTable();
        givesWithoutTable();
        matchWithoutTable();
        walkWithoutTable();
        restartWithoutTable();
        placeWithoutTable();
        wayWithoutTable();
        nextStates();
        nextBytes();
        givesStates();
        matchEmptyAndFull();
        matchLosesTyped();
        walkBytes();
        walkSinceItBegan();
        restartAnywhere();
        placeAnywhere();
        wayPermissions();
        wayLeastByte();
        CHECK.end();
    }

    private static boolean within(int number, int least, int greatest) {
        return number >= least && number <= greatest;
    }

    private static void noTable(String about, GlobProfile x) {
        CHECK.due(about + ": sets()", x.sets(), 0);
        CHECK.due(about + ": states()", x.states(), 0);
        CHECK.due(about + ": next(0, 0)", x.next(0, 0), -1);
        CHECK.due(about + ": gives(0)", x.gives(0), -1);
        CHECK.due(about + ": match()", x.match(), -1);
        CHECK.due(about + ": walk(97)", x.walk('a'), -1);
        CHECK.due(about + ": restart()", x.restart(), false);
        CHECK.due(about + ": place()", x.place(), -1);
        for (int permissions = 0; permissions <= 8; permissions++) {
            CHECK.due(about + ": way", x.way(permissions), -1);
        }
    }

    /** Promise 1: "No rules, nothing typed, no table." */
    private static void newObject() {
        GlobProfile x = new GlobProfile();
        CHECK.due("1: rules()", x.rules(), 0);
        CHECK.due("1: pieces(0)", x.pieces(0), -1);
        CHECK.due("1: drop(0)", x.drop(0), false);
        noTable("1", x);
        CHECK.due("1: nothing is typed", x.rule(true, 1), -1);
        CHECK.due("1: there is room for 40", Typist.type(new GlobProfile(), "a".repeat(40)), true);
    }

    /** Promise 2: "false, refused, if n is not 1 .. 4". */
    private static void typeLengths() {
        for (int n : NUMBERS) {
            GlobProfile x = new GlobProfile();
            boolean taken = within(n, 1, 4);
            CHECK.due("2: n " + n, x.type(0x61616161, n), taken);
            CHECK.due("2: typed with n " + n, x.rule(true, 1), taken ? 0 : -1);
            CHECK.due("2: characters with n " + n, x.pieces(0), taken ? n : -1);
        }
    }

    /** Promise 2: "one of them is not 33 .. 126", wherever it stands. */
    private static void typeBytes() {
        for (int b = 0; b <= 255; b++) {
            for (int n = 1; n <= 4; n++) {
                for (int place = 0; place < n; place++) {
                    int word = 0x61616161 & ~(255 << 8 * place) | b << 8 * place;
                    String about = "2: type " + Integer.toHexString(word) + " " + n;
                    CHECK.due(about, new GlobProfile().type(word, n), within(b, 33, 126));
                }
            }
        }
    }

    /** Promise 2: "Appends the n lowest bytes of word". */
    private static void typeBytesAboveAreNotLookedAt() {
        for (int n = 1; n <= 3; n++) {
            for (int above : new int[] {0, 1, 32, 127, 128, 255}) {
                GlobProfile x = Profiles.compiled("a".repeat(n));
                int word = 0x61616161 & (1 << 8 * n) - 1 | above << 8 * n;
                CHECK.due("2: " + above + " above " + n, x.type(word, n), true);
                CHECK.due("2: typed below " + above, x.match(), 1);
            }
        }
    }

    /** Promise 2: "the highest of them first". */
    private static void typeHighestFirst() {
        GlobProfile x = Profiles.compiled("1:abcd", "2:bcd", "3:cd", "4:d", "5:cdbcd");
        for (int n = 1; n <= 4; n++) {
            x.type(0x61626364, n);
            CHECK.due("2: abcd, n " + n, x.match(), 5 - n);
        }
        x.type(0x61626364, 2);
        x.type(0x61626364, 3);
        CHECK.due("2: appended", x.match(), 5);
    }

    /** Promise 2: "or more than 40 would be there". */
    private static void typeUpToForty() {
        for (int n = 1; n <= 4; n++) {
            for (int typed = 0; typed <= 40; typed++) {
                GlobProfile x = new GlobProfile();
                CHECK.due("2: " + typed, Typist.type(x, "b".repeat(typed)), true);
                boolean taken = typed + n <= 40;
                CHECK.due("2: " + n + " behind " + typed, x.type(0x61616161, n), taken);
                String text = "b".repeat(typed) + (taken ? "a".repeat(n) : "");
                x.rule(true, 1);
                CHECK.due("2: pieces of " + text, x.pieces(0), text.length());
                x.compile(120);
                CHECK.due("2: match of " + text, Typist.match(x, text), 1);
            }
        }
    }

    private static void typeBehindFull() {
        GlobProfile x = new GlobProfile();
        for (int i = 1; i <= 100; i++) {
            CHECK.due("2: character " + i, x.type('a', 1), i <= 40);
        }
        CHECK.due("2: rule of 40", x.rule(true, 1), 0);
        CHECK.due("2: there is room again", Typist.type(x, "a".repeat(40)), true);
        CHECK.due("2: full again", x.type('a', 1), false);
        x.compile(120);
        CHECK.due("2: match of 40", x.match(), 1);
        CHECK.due("2: there is room again", Typist.type(x, "a".repeat(40)), true);
        CHECK.due("2: full again", x.type('a', 1), false);
        CHECK.due("2: no rule of 40", x.rule(true, 0), -1000);
        CHECK.due("2: there is room again", Typist.type(x, "a".repeat(40)), true);
        CHECK.due("2: full again", x.type('a', 1), false);
    }

    /** A word of which only some bytes are wrong is refused whole. */
    private static void typeAllOrNothing() {
        GlobProfile x = Profiles.compiled("1:{,}", "2:{a,aa,aaa}");
        for (int word : new int[] {0x61616120, 0x61612061, 0x61206161, 0x20616161}) {
            CHECK.due("2: " + Integer.toHexString(word), x.type(word, 4), false);
            CHECK.due("2: nothing of " + Integer.toHexString(word), x.match(), 1);
        }
    }

    /** Promise 3: "-1000 if permissions are not 1 .. 7". */
    private static void rulePermissions() {
        for (int permissions : NUMBERS) {
            for (boolean allow : new boolean[] {true, false}) {
                GlobProfile x = new GlobProfile();
                x.type('a', 1);
                boolean taken = within(permissions, 1, 7);
                CHECK.due("3: permissions " + permissions, x.rule(allow, permissions), taken ? 0 : -1000);
                CHECK.due("3: rules with " + permissions, x.rules(), taken ? 1 : 0);
            }
        }
    }

    /** Promise 3: "(looked at in this order ..": the fault comes before all that answers -1000. */
    private static void ruleOrderOfLooking() {
        GlobProfile x = new GlobProfile();
        CHECK.due("3: faulty, permissions 0", Typist.allow(x, "ab]", 0), -3);
        CHECK.due("3: nothing typed, permissions 8", x.rule(true, 8), -1);
        GlobProfile y = Profiles.of("a", "a", "a", "a", "a", "a");
        CHECK.due("3: faulty, 6 rules", Typist.allow(y, "ab]", 1), -3);
        CHECK.due("3: nothing typed, 6 rules", y.rule(true, 1), -1);
        GlobProfile z = Profiles.of("a".repeat(40), "a".repeat(20));
        CHECK.due("3: faulty, 60 pieces", Typist.allow(z, "ab]", 1), -3);
        CHECK.due("3: faulty, 60 pieces, permissions 0", Typist.deny(z, "a".repeat(39) + "{", 0), -41);
    }

    /** Promise 3: "nothing is typed then", and "what was typed is gone" where it is none. */
    private static void ruleTakesTyped() {
        GlobProfile x = new GlobProfile();
        CHECK.due("3: rule", Typist.allow(x, "a", 1), 0);
        CHECK.due("3: nothing is typed behind a rule", x.rule(true, 1), -1);
        CHECK.due("3: faulty", Typist.allow(x, "aa}", 1), -3);
        CHECK.due("3: nothing is typed behind a fault", x.rule(true, 1), -1);
        CHECK.due("3: permissions 0", Typist.allow(x, "aa", 0), -1000);
        CHECK.due("3: nothing is typed behind permissions 0", x.rule(true, 1), -1);
        GlobProfile y = Profiles.of("a", "a", "a", "a", "a", "a");
        CHECK.due("3: a seventh", Typist.allow(y, "aa", 1), -1000);
        CHECK.due("3: nothing is typed behind a seventh", y.rule(true, 1), -1);
        GlobProfile z = Profiles.of("a".repeat(40), "a".repeat(20));
        CHECK.due("3: 61 pieces", Typist.allow(z, "a", 1), -1000);
        CHECK.due("3: nothing is typed behind 61 pieces", z.rule(true, 1), -1);
    }

    /** Promise 3: "and there is no table", but "the table stays" where it is none. */
    private static void ruleTakesTheTable() {
        GlobProfile x = Profiles.compiled("a");
        CHECK.due("3: none", Typist.allow(x, "b", 0), -1000);
        CHECK.due("3: the table stays", x.states(), 3);
        CHECK.due("3: faulty", Typist.allow(x, "b]", 1), -2);
        CHECK.due("3: the table stays", x.states(), 3);
        CHECK.due("3: a rule without pieces", Typist.allow(x, "{,}", 1), 1);
        noTable("3: a rule", x);
        x.compile(120);
        CHECK.due("3: a rule that denies", Typist.deny(x, "b", 1), 2);
        noTable("3: a rule that denies", x);
    }

    private static String[] rulesOfLengths(int count) {
        String[] rules = new String[count];
        for (int k = 0; k < count; k++) {
            rules[k] = "a".repeat(k + 1);
        }
        return rules;
    }

    /** Promise 4: "false if there is none". */
    private static void dropNumbers() {
        for (int count = 0; count <= 6; count++) {
            for (int k : NUMBERS) {
                GlobProfile x = Profiles.of(rulesOfLengths(count));
                boolean there = within(k, 0, count - 1);
                CHECK.due("4: drop " + k + " of " + count, x.drop(k), there);
                CHECK.due("4: rules behind drop " + k, x.rules(), there ? count - 1 : count);
            }
        }
    }

    /** Promise 4: "the ones behind it have one number less then". */
    private static void dropMovesNumbers() {
        for (int count = 1; count <= 6; count++) {
            for (int k = 0; k < count; k++) {
                GlobProfile x = Profiles.of(rulesOfLengths(count));
                x.drop(k);
                for (int i = 0; i < count - 1; i++) {
                    CHECK.due("4: pieces " + i + " behind drop " + k, x.pieces(i), i < k ? i + 1 : i + 2);
                }
                CHECK.due("4: the last number", x.pieces(count - 1), -1);
                x.compile(120);
                for (int i = 0; i < count; i++) {
                    CHECK.due("4: match " + i + " behind drop " + k, Typist.match(x, "a".repeat(i + 1)), i == k ? 0 : 1);
                }
                CHECK.due("4: a rule at the last number", Typist.allow(x, "b", 1), count - 1);
            }
        }
    }

    /** Behind each drop the profile is filled up again: no two rules are one. */
    private static void dropMakesRoom() {
        for (int count = 1; count <= 6; count++) {
            for (int k = 0; k < count; k++) {
                GlobProfile x = Profiles.of(rulesOfLengths(count));
                x.drop(k);
                for (int i = count - 1; i < 6; i++) {
                    CHECK.due("4: rule behind drop " + k, Typist.allow(x, "b".repeat(i + 1), 2), i);
                }
                CHECK.due("4: a seventh", Typist.allow(x, "c", 4), -1000);
                x.compile(120);
                for (int i = 0; i < 6; i++) {
                    int pieces = i >= count - 1 || i < k ? i + 1 : i + 2;
                    CHECK.due("4: pieces " + i, x.pieces(i), pieces);
                    CHECK.due("4: match " + i, Typist.match(x, (i < count - 1 ? "a" : "b").repeat(pieces)), i < count - 1 ? 1 : 2);
                }
            }
        }
    }

    private static void dropFirstAndLast() {
        GlobProfile x = Profiles.compiled(rulesOfLengths(6));
        for (int count = 6; count > 0; count--) {
            CHECK.due("4: drop behind the last", x.drop(count), false);
            CHECK.due("4: drop the last", x.drop(count - 1), true);
            noTable("4: drop", x);
            CHECK.due("4: compile", x.compile(120), count == 1 ? 1 : count + 1);
        }
        CHECK.due("4: drop of none", x.drop(0), false);
        CHECK.due("4: the table of none stays", x.states(), 1);
        GlobProfile y = Profiles.of(rulesOfLengths(6));
        for (int count = 6; count > 0; count--) {
            CHECK.due("4: drop the first", y.drop(0), true);
            CHECK.due("4: rules", y.rules(), count - 1);
            CHECK.due("4: pieces of the first", y.pieces(0), count == 1 ? -1 : 8 - count);
        }
        CHECK.due("4: drop of none", y.drop(0), false);
    }

    /** Promise 5: "How many rules there are." */
    private static void rulesFromNoneToSix() {
        for (int count = 0; count <= 8; count++) {
            CHECK.due("5: rules of " + count, Profiles.of(rulesOfLengths(count)).rules(), Math.min(count, 6));
        }
    }

    /** Promise 6: "-1 if there is none". */
    private static void piecesNumbers() {
        for (int count = 0; count <= 6; count++) {
            for (int k : NUMBERS) {
                GlobProfile x = Profiles.of(rulesOfLengths(count));
                CHECK.due("6: pieces " + k + " of " + count, x.pieces(k), within(k, 0, count - 1) ? k + 1 : -1);
            }
        }
    }

    private static void piecesFromNoneToForty() {
        CHECK.due("6: no pieces", Profiles.of("{,}").pieces(0), 0);
        CHECK.due("6: no pieces, but a rule", Profiles.of("{{,},}").rules(), 1);
        for (int pieces = 1; pieces <= 40; pieces++) {
            CHECK.due("6: " + pieces, Profiles.of("?".repeat(pieces)).pieces(0), pieces);
        }
    }

    /** Promise 7: "-2, refused, if cap is not 1 .. 120". */
    private static void compileCaps() {
        for (int cap : NUMBERS) {
            GlobProfile x = new GlobProfile();
            int due = !within(cap, 1, 120) ? -2 : cap < 2 ? -1 : 1;
            CHECK.due("7: cap " + cap + " for two sets", x.compile(cap), due);
            CHECK.due("8: sets with cap " + cap, x.sets(), due == 1 ? 2 : 0);
            CHECK.due("9: states with cap " + cap, x.states(), due == 1 ? 1 : 0);
        }
    }

    private static void compileCapsOfAFullTable() {
        for (int cap = -1; cap <= 122; cap++) {
            GlobProfile x = Profiles.of(SETS_120);
            int due = !within(cap, 1, 120) ? -2 : cap < 120 ? -1 : 120;
            CHECK.due("7: cap " + cap + " for 120 sets", x.compile(cap), due);
            CHECK.due("8: sets with cap " + cap, x.sets(), due == 120 ? 120 : 0);
            CHECK.due("9: states with cap " + cap, x.states(), due == 120 ? 120 : 0);
        }
    }

    /** Promise 7: "and the walk is at state 0". */
    private static void compileBeginsTheWalk() {
        GlobProfile x = Profiles.compiled("ab");
        CHECK.due("7: place", x.place(), 0);
        x.walk('a');
        CHECK.due("7: refused", x.compile(121), -2);
        CHECK.due("7: refused, the walk stays", x.place(), 2);
        x.compile(4);
        CHECK.due("7: place behind compile", x.place(), 0);
        x.walk('a');
        Typist.allow(x, "b", 1);
        x.compile(120);
        CHECK.due("7: place behind a rule and compile", x.place(), 0);
    }

    /** Promise 7: "-1 if there are more than cap sets (no table then)". */
    private static void compileTooManySets() {
        GlobProfile x = Profiles.compiled("ab");
        x.walk('a');
        CHECK.due("7: too many sets", x.compile(3), -1);
        noTable("7: too many sets", x);
        CHECK.due("7: the rules stay", x.rules(), 1);
        CHECK.due("7: enough", x.compile(4), 4);
        CHECK.due("7: the walk is at 0", x.place(), 0);
        CHECK.due("7: ab", Typist.match(x, "ab"), 1);
    }

    /** All the ways to an object without a table. */
    private static List<GlobProfile> withoutTable() {
        GlobProfile rule = Profiles.compiled("a");
        rule.walk('a');
        Typist.allow(rule, "b", 1);
        GlobProfile drop = Profiles.compiled("a", "b");
        drop.walk('a');
        drop.drop(1);
        GlobProfile tooMany = Profiles.compiled("a");
        tooMany.walk('a');
        tooMany.compile(2);
        GlobProfile refused = Profiles.of("a");
        refused.compile(121);
        return List.of(new GlobProfile(), Profiles.of("a"), rule, drop, tooMany, refused);
    }

    private static void noTableDue(String call, int due, ToIntFunction<GlobProfile> asked) {
        for (GlobProfile x : withoutTable()) {
            CHECK.due(call + " without a table", asked.applyAsInt(x), due);
        }
        GlobProfile x = Profiles.compiled("{,a}");
        CHECK.due(call + " with a table is another", asked.applyAsInt(x) != due, true);
    }

    /** Promise 8: "0 if there is none". */
    private static void setsWithoutTable() {
        noTableDue("8: sets()", 0, GlobProfile::sets);
    }

    /** Promise 9: "0 if there is none". */
    private static void statesWithoutTable() {
        noTableDue("9: states()", 0, GlobProfile::states);
    }

    /** Promise 10: "-1 if there is no such state or byte, or no table". */
    private static void nextWithoutTable() {
        noTableDue("10: next(0, 0)", -1, x -> x.next(0, 0));
        noTableDue("10: next(0, 255)", -1, x -> x.next(0, 255));
    }

    /** Promise 11: "-1 if there is no such state, or no table". */
    private static void givesWithoutTable() {
        noTableDue("11: gives(0)", -1, x -> x.gives(0));
    }

    /** Promise 12: "-1, refused, if there is no table". */
    private static void matchWithoutTable() {
        noTableDue("12: match()", -1, GlobProfile::match);
        noTableDue("12: match() of a", -1, x -> Typist.match(x, "a"));
    }

    /** Promise 13: "-1, refused, if .. there is no table". */
    private static void walkWithoutTable() {
        noTableDue("13: walk(0)", -1, x -> x.walk(0));
        noTableDue("13: walk(255)", -1, x -> x.walk(255));
    }

    /** Promise 14: "false if there is no table". */
    private static void restartWithoutTable() {
        noTableDue("14: restart()", 0, x -> x.restart() ? 1 : 0);
    }

    /** Promise 15: "-1 if there is no table". */
    private static void placeWithoutTable() {
        noTableDue("15: place()", -1, GlobProfile::place);
    }

    /** Promise 16: "-1 if there is none, or no table". */
    private static void wayWithoutTable() {
        noTableDue("16: way(1)", -1, x -> x.way(1));
        noTableDue("16: way(7)", -1, x -> x.way(7));
    }

    /** Promise 10: "-1 if there is no such state". */
    private static void nextStates() {
        for (int s : NUMBERS) {
            CHECK.due("10: state " + s + " of 1", Profiles.compiled().next(s, 0), s == 0 ? 0 : -1);
            CHECK.due("10: state " + s + " of 4", Profiles.compiled("ab").next(s, 0), within(s, 0, 3) ? 1 : -1);
            CHECK.due("10: state " + s + " of 120", Profiles.compiled(SETS_120).next(s, 255) >= 0, within(s, 0, 119));
        }
    }

    /** Promise 10: "or byte". */
    private static void nextBytes() {
        for (int b : NUMBERS) {
            int due = !within(b, 0, 255) ? -1 : b == 'a' ? 2 : 1;
            CHECK.due("10: byte " + b, Profiles.compiled("ab").next(0, b), due);
            CHECK.due("10: byte " + b + " from the last", Profiles.compiled("ab").next(3, b), within(b, 0, 255) ? 1 : -1);
        }
    }

    /** Promise 11: "-1 if there is no such state". */
    private static void givesStates() {
        for (int s : NUMBERS) {
            CHECK.due("11: state " + s + " of 1", Profiles.compiled("7:**").gives(s), s == 0 ? 7 : -1);
            int due = !within(s, 0, 3) ? -1 : s == 3 ? 6 : 0;
            CHECK.due("11: state " + s + " of 4", Profiles.compiled("6:ab").gives(s), due);
            CHECK.due("11: state " + s + " of 120", Profiles.compiled(SETS_120).gives(s) >= 0, within(s, 0, 119));
        }
    }

    /** Promise 12: "The permissions of the path that is typed": from none to 40 characters. */
    private static void matchEmptyAndFull() {
        CHECK.due("12: the empty path", Profiles.compiled("5:{,a}").match(), 5);
        CHECK.due("12: the empty path", Profiles.compiled("5:a").match(), 0);
        CHECK.due("12: the empty path, no rules", Profiles.compiled().match(), 0);
        for (int length = 1; length <= 40; length++) {
            GlobProfile x = Profiles.compiled("3:" + "?".repeat(length));
            CHECK.due("12: " + length, Typist.match(x, "~".repeat(length)), 3);
            CHECK.due("12: one less than " + length, Typist.match(x, "~".repeat(length - 1)), 0);
            CHECK.due("12: one more than " + length, Typist.match(x, "~".repeat(length % 40 + 1)), 0);
        }
    }

    /** Promise 12: "nothing is typed then", but "-1, refused, if there is no table". */
    private static void matchLosesTyped() {
        GlobProfile x = Profiles.compiled("1:{,a}", "2:aa");
        CHECK.due("12: aa", Typist.match(x, "aa"), 2);
        CHECK.due("12: nothing is typed", x.match(), 1);
        x.type('a', 1);
        x.compile(1);
        CHECK.due("12: no table", x.match(), -1);
        CHECK.due("12: no table", x.match(), -1);
        x.compile(120);
        x.type('a', 1);
        CHECK.due("12: a and a are typed", x.match(), 2);
    }

    /** Promise 13: "-1, refused, if b is not 0 .. 255". */
    private static void walkBytes() {
        for (int b : NUMBERS) {
            GlobProfile x = Profiles.compiled("1:a?b", "2:a/b");
            x.walk('a');
            int due = !within(b, 0, 255) ? -1 : 0;
            CHECK.due("13: byte " + b, x.walk(b), due);
            int behind = !within(b, 0, 255) ? 0 : b == '/' ? 2 : 1;
            CHECK.due("13: b behind " + b, x.walk('b'), behind);
        }
    }

    /** Promise 13: "the permissions of what it has read since it began". */
    private static void walkSinceItBegan() {
        GlobProfile x = Profiles.compiled("1:a", "2:aa", "4:aaa*");
        for (int n = 1; n <= 100; n++) {
            CHECK.due("13: a " + n + " times", x.walk('a'), n == 1 ? 1 : n == 2 ? 2 : 4);
        }
        x.restart();
        CHECK.due("13: behind restart", x.walk('a'), 1);
        x.compile(120);
        CHECK.due("13: behind compile", x.walk('a'), 1);
        CHECK.due("13: match does not walk", Typist.match(x, "aaa"), 4);
        CHECK.due("13: one more", x.walk('a'), 2);
    }

    /** Promise 14: "The walk begins anew: false if there is no table." */
    private static void restartAnywhere() {
        GlobProfile x = new GlobProfile();
        CHECK.due("14: new", x.restart(), false);
        x.compile(2);
        CHECK.due("14: at the beginning", x.restart(), true);
        Typist.allow(x, "ab", 1);
        CHECK.due("14: behind a rule", x.restart(), false);
        x.compile(4);
        for (String path : new String[] {"", "a", "ab", "abb", "b"}) {
            for (char c : path.toCharArray()) {
                x.walk(c);
            }
            CHECK.due("14: behind " + path, x.restart(), true);
            CHECK.due("14: place", x.place(), 0);
        }
        x.walk('a');
        CHECK.due("14: twice", x.restart() && x.restart(), true);
        CHECK.due("14: a anew", x.walk('a'), 0);
        CHECK.due("14: ab anew", x.walk('b'), 1);
    }

    /** Promise 15: "The state at which the walk is". */
    private static void placeAnywhere() {
        GlobProfile x = Profiles.compiled(SETS_120);
        int state = 0;
        CHECK.due("15: place", x.place(), 0);
        for (int i = 0; i < 100; i++) {
            int b = "zazzz/a~".charAt(i % 8);
            state = x.next(state, b);
            x.walk(b);
            CHECK.due("15: place behind " + i, x.place(), state);
        }
        x.walk(256);
        CHECK.due("15: place behind a byte that is refused", x.place(), state);
    }

    /** Promise 16: "a state that gives one of the permissions". */
    private static void wayPermissions() {
        String[] rules = {"1:[ghi]", "2:[ehf]", "4:[bfi]"};
        int[] least = {-1, 'g', 'e', 'e', 'b', 'b', 'b', 'b'};
        for (int permissions = 0; permissions <= 7; permissions++) {
            CHECK.due("16: way " + permissions, Profiles.compiled(rules).way(permissions), least[permissions]);
        }
        for (int permissions : NUMBERS) {
            int way = Profiles.compiled(rules).way(permissions);
            CHECK.due("16: way " + permissions + ", whose bits beyond 7 are no permissions", way, least[permissions & 7]);
        }
    }

    /** Promise 16: "The least byte", "in one step", "-1 if there is none". */
    private static void wayLeastByte() {
        CHECK.due("16: 0 is the least", Profiles.compiled("?").way(1), 0);
        CHECK.due("16: 33", Profiles.compiled("!").way(1), 33);
        CHECK.due("16: 126", Profiles.compiled("~").way(1), 126);
        CHECK.due("16: 47", Profiles.compiled("1:**", "-1:?").way(1), '/');
        CHECK.due("16: 48", Profiles.compiled("[/0]").way(1), '0');
        CHECK.due("16: two steps", Profiles.compiled("??").way(1), -1);
        CHECK.due("16: no step", Profiles.compiled("{,}").way(1), -1);
        CHECK.due("16: no rules", Profiles.compiled().way(7), -1);
        GlobProfile x = Profiles.compiled("1:ab", "2:b");
        CHECK.due("16: at the beginning", x.way(1), -1);
        x.walk('a');
        CHECK.due("16: behind a", x.way(1), 'b');
        CHECK.due("16: behind a", x.way(2), -1);
        x.walk('b');
        CHECK.due("16: behind ab", x.way(3), -1);
        x.restart();
        CHECK.due("16: at the beginning again", x.way(2), 'b');
    }
}
