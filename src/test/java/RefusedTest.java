import java.util.ArrayList;
import java.util.LinkedHashMap;
import java.util.List;
import java.util.Map;
import java.util.TreeSet;
import java.util.function.Consumer;
import java.util.function.ToIntFunction;

/**
 * "A call that is refused changes nothing": what can be seen of an object is the same behind the call as before, for
 * objects in all kinds of states. So it is with calls that find nothing, and with questions.
 */
public final class RefusedTest {
    private static final Check CHECK = new Check();
    private static final String TEN = "abcabcabcz";
    private static final int[] NOT_BYTES = {-1, 256, 'a' + 256, 'a' - 256, Integer.MIN_VALUE, Integer.MAX_VALUE};
    private static final int[] NOT_CAPS = {0, 121, -1, 120 + 256, 1 - 256, Integer.MIN_VALUE, Integer.MAX_VALUE};
    private static final int[] NOT_LENGTHS = {0, 5, -1, 4 + 256, 1 - 256, Integer.MIN_VALUE, Integer.MAX_VALUE};
    private static final int[] NOT_PERMISSIONS = {0, 8, -1, 7 + 256, 1 - 256, Integer.MIN_VALUE, Integer.MAX_VALUE};

    private static final Map<String, Consumer<GlobProfile>> SCENES = new LinkedHashMap<>();
    private static final Map<String, String> SIGHTS = new LinkedHashMap<>();

    public static void main(String[] args) {
        makeScenes();
        scenesDiffer();
        for (String scene : SCENES.keySet()) {
            typeRefused(scene);
            compileRefused(scene);
            matchRefused(scene);
            walkRefused(scene);
            dropOfNone(scene);
            questionsWithoutAnswer(scene);
            questions(scene);
        }
        fullTextRefused();
        noRule();
        noSeventhRule();
        noMorePieces();
        onlyWhatIsPromised();
        CHECK.end();
    }

    private static void makeScenes() {
        SCENES.put("new", x -> { });
        SCENES.put("typed", x -> Typist.type(x, "a{b,c}"));
        SCENES.put("39 typed", x -> Typist.type(x, TEN + TEN + TEN + TEN.substring(1)));
        SCENES.put("40 typed", x -> Typist.type(x, TEN + TEN + TEN + TEN));
        SCENES.put("table of no rules", x -> {
            x.compile(120);
            x.walk('a');
        });
        SCENES.put("rules", RefusedTest::threeRules);
        SCENES.put("rules and typed", x -> {
            threeRules(x);
            Typist.type(x, "a/b");
        });
        SCENES.put("table", x -> {
            threeRules(x);
            x.compile(120);
        });
        SCENES.put("table and walk", x -> {
            threeRules(x);
            x.compile(120);
            x.walk('a');
        });
        SCENES.put("table, walk and typed", x -> {
            threeRules(x);
            x.compile(120);
            x.walk('a');
            Typist.type(x, "a/b");
        });
        SCENES.put("table lost by a rule", x -> {
            threeRules(x);
            x.compile(120);
            x.walk('a');
            Typist.allow(x, "{a,b}?", 4);
            Typist.type(x, "bb");
        });
        SCENES.put("table lost by a drop", x -> {
            threeRules(x);
            x.compile(120);
            x.walk('a');
            x.drop(1);
            Typist.type(x, "bb");
        });
        SCENES.put("table lost by too many sets", x -> {
            threeRules(x);
            x.compile(120);
            x.walk('a');
            x.compile(2);
            Typist.type(x, "a");
        });
        SCENES.put("all full", x -> {
            sixRules(x);
            x.compile(120);
            x.walk('a');
            x.walk('b');
            Typist.type(x, TEN + TEN + TEN + TEN);
        });
        SCENES.forEach((name, calls) -> SIGHTS.put(name, Sight.of(calls)));
    }

    private static void threeRules(GlobProfile x) {
        Typist.allow(x, "a*{b,/}", 3);
        Typist.deny(x, "?b", 1);
        Typist.allow(x, "**[^a-c]", 4);
    }

    private static void sixRules(GlobProfile x) {
        for (int k = 0; k < 6; k++) {
            Typist.type(x, TEN);
            x.rule(k != 4, k + 1);
        }
    }

    /** Else a change could be one that is not seen. */
    private static void scenesDiffer() {
        CHECK.due("sights that differ", new TreeSet<>(SIGHTS.values()).size(), SCENES.size());
    }

    private static void changesNothing(String scene, String call, int answer, ToIntFunction<GlobProfile> made) {
        Consumer<GlobProfile> calls = SCENES.get(scene);
        GlobProfile x = new GlobProfile();
        calls.accept(x);
        CHECK.due(scene + ": " + call, made.applyAsInt(x), answer);
        CHECK.same(scene + ", behind " + call, Sight.of(calls.andThen(made::applyAsInt)), SIGHTS.get(scene));
    }

    private static boolean hasTable(String scene) {
        GlobProfile x = new GlobProfile();
        SCENES.get(scene).accept(x);
        return x.states() > 0;
    }

    /** Promise 2: "false, refused, if n is not 1 .. 4, one of them is not 33 .. 126, or more than 40 would be there". */
    private static void typeRefused(String scene) {
        for (int n : NOT_LENGTHS) {
            changesNothing(scene, "type(aaaa, " + n + ")", 0, x -> x.type(0x61616161, n) ? 1 : 0);
        }
        for (int word : new int[] {0x20616161, 0x61206161, 0x61612061, 0x61616120, 0x7F616161, 0x6161617F, 0xE1616161}) {
            changesNothing(scene, "type(" + Integer.toHexString(word) + ", 4)", 0, x -> x.type(word, 4) ? 1 : 0);
        }
        for (int b : new int[] {0, 32, 127, 255}) {
            changesNothing(scene, "type(" + b + ", 1)", 0, x -> x.type(0x61616100 | b, 1) ? 1 : 0);
            changesNothing(scene, "type(a and " + b + ", 2)", 0, x -> x.type(0x61616100 | b, 2) ? 1 : 0);
        }
    }

    /** Promise 2: "more than 40 would be there". */
    private static void fullTextRefused() {
        for (int n = 1; n <= 4; n++) {
            int length = n;
            changesNothing("40 typed", "type of " + n, 0, x -> x.type(0x61616161, length) ? 1 : 0);
            changesNothing("all full", "type of " + n, 0, x -> x.type(0x61616161, length) ? 1 : 0);
            if (n > 1) {
                changesNothing("39 typed", "type of " + n, 0, x -> x.type(0x61616161, length) ? 1 : 0);
            }
        }
    }

    /** Promise 7: "-2, refused, if cap is not 1 .. 120". */
    private static void compileRefused(String scene) {
        for (int cap : NOT_CAPS) {
            changesNothing(scene, "compile(" + cap + ")", -2, x -> x.compile(cap));
        }
    }

    /** Promise 12: "-1, refused, if there is no table". */
    private static void matchRefused(String scene) {
        if (!hasTable(scene)) {
            changesNothing(scene, "match()", -1, GlobProfile::match);
        }
    }

    /** Promise 13: "-1, refused, if b is not 0 .. 255, or there is no table". */
    private static void walkRefused(String scene) {
        for (int b : NOT_BYTES) {
            changesNothing(scene, "walk(" + b + ")", -1, x -> x.walk(b));
        }
        if (!hasTable(scene)) {
            changesNothing(scene, "walk(0)", -1, x -> x.walk(0));
            changesNothing(scene, "walk(97)", -1, x -> x.walk('a'));
            changesNothing(scene, "walk(255)", -1, x -> x.walk(255));
        }
    }

    /** Promise 4: "false if there is none". */
    private static void dropOfNone(String scene) {
        GlobProfile made = new GlobProfile();
        SCENES.get(scene).accept(made);
        for (int k : new int[] {-1, made.rules(), made.rules() + 1, 256, -256, Integer.MIN_VALUE, Integer.MAX_VALUE}) {
            changesNothing(scene, "drop(" + k + ")", 0, x -> x.drop(k) ? 1 : 0);
        }
    }

    /** Promises 6, 10, 11, 14, 15 and 16, where they have no answer. */
    private static void questionsWithoutAnswer(String scene) {
        GlobProfile made = new GlobProfile();
        SCENES.get(scene).accept(made);
        int rules = made.rules();
        int states = made.states();
        changesNothing(scene, "pieces(-1)", -1, x -> x.pieces(-1));
        changesNothing(scene, "pieces(rules)", -1, x -> x.pieces(rules));
        changesNothing(scene, "next(-1, 97)", -1, x -> x.next(-1, 'a'));
        changesNothing(scene, "next(states, 97)", -1, x -> x.next(states, 'a'));
        changesNothing(scene, "next(0, -1)", -1, x -> x.next(0, -1));
        changesNothing(scene, "next(0, 256)", -1, x -> x.next(0, 256));
        changesNothing(scene, "gives(-1)", -1, x -> x.gives(-1));
        changesNothing(scene, "gives(states)", -1, x -> x.gives(states));
        changesNothing(scene, "way(0)", -1, x -> x.way(0));
        if (states == 0) {
            changesNothing(scene, "restart()", 0, x -> x.restart() ? 1 : 0);
            changesNothing(scene, "place()", -1, GlobProfile::place);
            changesNothing(scene, "way(7)", -1, x -> x.way(7));
            changesNothing(scene, "sets()", 0, GlobProfile::sets);
        }
    }

    private static void questions(String scene) {
        GlobProfile made = new GlobProfile();
        SCENES.get(scene).accept(made);
        Map<String, ToIntFunction<GlobProfile>> questions = new LinkedHashMap<>();
        questions.put("rules()", GlobProfile::rules);
        questions.put("pieces(0)", x -> x.pieces(0));
        questions.put("sets()", GlobProfile::sets);
        questions.put("states()", GlobProfile::states);
        questions.put("next(0, 97)", x -> x.next(0, 'a'));
        questions.put("gives(0)", x -> x.gives(0));
        questions.put("place()", GlobProfile::place);
        questions.put("way(7)", x -> x.way(7));
        questions.forEach((name, question) -> changesNothing(scene, name, question.applyAsInt(made), question));
    }

    private static List<String> scenesWithNothingTyped() {
        List<String> scenes = new ArrayList<>();
        for (String scene : SCENES.keySet()) {
            GlobProfile x = new GlobProfile();
            SCENES.get(scene).accept(x);
            if (x.rule(true, 1) == -1) {
                scenes.add(scene);
            }
        }
        return scenes;
    }

    /** Promise 3: "in all these cases it is none, and the table stays, but what was typed is gone". */
    private static void noRule() {
        for (String scene : scenesWithNothingTyped()) {
            changesNothing(scene, "rule of nothing", -1, x -> x.rule(true, 7));
            changesNothing(scene, "rule of a]", -2, x -> Typist.allow(x, "a]", 7));
            changesNothing(scene, "rule of a{b,[c-", -8, x -> Typist.deny(x, "a{b,[c-", 7));
            changesNothing(scene, "rule of faulty 40", -41, x -> Typist.allow(x, "{," + TEN.repeat(3) + TEN.substring(2), 1));
            for (int permissions : NOT_PERMISSIONS) {
                changesNothing(scene, "rule with " + permissions, -1000, x -> Typist.allow(x, "a{b,c}", permissions));
                changesNothing(scene, "denying rule with " + permissions, -1000, x -> Typist.deny(x, "**", permissions));
            }
        }
    }

    private static void scene(String name, Consumer<GlobProfile> calls) {
        SCENES.put(name, calls);
        SIGHTS.put(name, Sight.of(calls));
    }

    /** Promise 3: "there are 6 rules". */
    private static void noSeventhRule() {
        scene("six small rules, table and walk", x -> {
            threeRules(x);
            threeRules(x);
            x.compile(120);
            x.walk('a');
        });
        changesNothing("six small rules, table and walk", "a seventh", -1000, x -> Typist.allow(x, "a", 1));
        changesNothing("six small rules, table and walk", "a seventh that denies", -1000, x -> Typist.deny(x, "**", 7));
        changesNothing("six small rules, table and walk", "a seventh without pieces", -1000, x -> Typist.deny(x, "{,}", 7));
        changesNothing("six small rules, table and walk", "a faulty seventh", -2, x -> Typist.deny(x, "{}", 7));
    }

    /** Promise 3: "there would be more than 60 pieces". */
    private static void noMorePieces() {
        scene("60 pieces, table and walk", x -> {
            Typist.allow(x, TEN.repeat(4), 1);
            Typist.deny(x, TEN.repeat(2), 2);
            x.compile(120);
            x.walk('a');
        });
        changesNothing("60 pieces, table and walk", "one more", -1000, x -> Typist.allow(x, "a", 1));
        changesNothing("60 pieces, table and walk", "** more", -1000, x -> Typist.deny(x, "**", 7));
        changesNothing("60 pieces, table and walk", "40 more", -1000, x -> Typist.allow(x, TEN.repeat(4), 1));
        changesNothing("60 pieces, table and walk", "faulty ones more", -3, x -> Typist.allow(x, "aa]", 1));
    }

    private static void comesTo(String about, Consumer<GlobProfile> calls, String scene) {
        CHECK.same(about, Sight.of(calls), SIGHTS.get(scene));
    }

    /** Calls that are taken change what their promise says and nothing else. */
    private static void onlyWhatIsPromised() {
        Consumer<GlobProfile> table = SCENES.get("table");
        Consumer<GlobProfile> walked = SCENES.get("table, walk and typed");
        comesTo("match takes what is typed only", SCENES.get("table and walk").andThen(x -> Typist.match(x, "a/b")),
                "table and walk");
        comesTo("type types only", SCENES.get("table and walk").andThen(x -> Typist.type(x, "a/b")), "table, walk and typed");
        comesTo("walk and restart move the walk only", walked.andThen(x -> {
            x.walk('b');
            x.restart();
            x.walk('a');
        }), "table, walk and typed");
        comesTo("compile makes the same table again, and begins the walk", walked.andThen(x -> {
            x.compile(120);
            x.walk('a');
        }), "table, walk and typed");
        comesTo("compile with too many sets takes the table only", walked.andThen(x -> x.compile(2)), "rules and typed");
        comesTo("no table behind drop of all", table.andThen(x -> {
            x.drop(2);
            x.drop(1);
            x.drop(0);
        }), "new");
        comesTo("drop of all and a table of none", table.andThen(x -> {
            x.drop(0);
            x.drop(0);
            x.drop(0);
            x.compile(120);
            x.walk('a');
        }), "table of no rules");
        dropAndRuleOnly();
    }

    private static void dropAndRuleOnly() {
        Consumer<GlobProfile> walked = SCENES.get("table, walk and typed");
        scene("the last two rules and typed", x -> {
            Typist.deny(x, "?b", 1);
            Typist.allow(x, "**[^a-c]", 4);
            Typist.type(x, "a/b");
        });
        comesTo("drop takes the rule and the table only", walked.andThen(x -> x.drop(0)), "the last two rules and typed");
        comesTo("rule takes what is typed and the table only", x -> {
            Typist.allow(x, "a*{b,/}", 3);
            Typist.deny(x, "?b", 1);
            x.compile(120);
            x.walk('a');
            Typist.allow(x, "**[^a-c]", 4);
        }, "rules");
    }
}
