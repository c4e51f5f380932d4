import java.util.ArrayList;
import java.util.List;
import java.util.Random;

/** Long runs of calls, drawn with fixed seeds, whose every answer is the model's. */
public final class ModelTest {
    private static final int PROFILES = 300;
    private static final int RUNS = 300;
    /** An object may be used for 512 calls; the dearest draw of a run makes 16. */
    private static final int MOST_CALLS = 512 - 16;
    private static final Check CHECK = new Check();
    private static int callsOfRun;

    private record Rule(String glob, boolean allow, int permissions) {
    }

    public static void main(String[] args) {
        for (int seed = 0; seed < PROFILES; seed++) {
            wholeTable(seed);
        }
        for (int seed = 0; seed < RUNS; seed++) {
            mixedCalls(seed);
        }
        CHECK.end();
    }

    private static void wholeTable(int seed) {
        Random random = new Random(seed);
        List<Rule> rules = new ArrayList<>();
        int count = random.nextInt(5) + 1;
        for (int k = 0; k < count; k++) {
            String glob = Globs.glob(random, random.nextInt(8) + 1);
            rules.add(new Rule(glob, random.nextInt(3) > 0, random.nextInt(7) + 1));
        }
        String about = "profile " + seed + " " + rules + ":";
        GlobProfile profile = new GlobProfile();
        Model model = new Model();
        for (int k = 0; k < count; k++) {
            Rule rule = rules.get(k);
            typeBoth(profile, model, rule.glob);
            CHECK.due(about + " rule", profile.rule(rule.allow, rule.permissions), model.rule(rule.allow, rule.permissions));
            CHECK.due(about + " pieces", profile.pieces(k), model.pieces(k));
        }
        CHECK.due(about + " compile", profile.compile(120), model.compile(120));
        CHECK.due(about + " sets", profile.sets(), model.sets());
        CHECK.due(about + " states", profile.states(), model.states());
        int sets = model.sets();
        if (sets > 1) {
            CHECK.due(about + " compile below its sets", profile.compile(sets - 1), model.compile(sets - 1));
            CHECK.due(about + " compile at its sets", profile.compile(sets), model.compile(sets));
        }
        for (int s = -1; s <= model.states(); s++) {
            sameState(about, compiled(rules), model, s);
        }
        for (int i = 0; i < 30; i++) {
            samePath(about, compiled(rules), model, Globs.path(random));
        }
    }

    private static GlobProfile compiled(List<Rule> rules) {
        GlobProfile profile = new GlobProfile();
        for (Rule rule : rules) {
            Typist.type(profile, rule.glob);
            profile.rule(rule.allow, rule.permissions);
        }
        profile.compile(120);
        return profile;
    }

    private static void sameState(String about, GlobProfile profile, Model model, int s) {
        CHECK.due(about + " gives " + s, profile.gives(s), model.gives(s));
        for (int b = -1; b <= 256; b++) {
            CHECK.due(about + " next " + s + " " + b, profile.next(s, b), model.next(s, b));
        }
    }

    private static void samePath(String about, GlobProfile profile, Model model, String path) {
        typeBoth(profile, model, path);
        CHECK.due(about + " match " + path, profile.match(), model.match());
        CHECK.due(about + " restart", profile.restart(), model.restart());
        for (int i = 0; i < path.length() && model.states() > 0; i++) {
            int b = path.charAt(i);
            model.walk(b);
            CHECK.due(about + " walk " + path, profile.walk(b), model.permissionsOf(path.substring(0, i + 1)));
        }
        CHECK.due(about + " place " + path, profile.place(), model.place());
        for (int permissions = -1; permissions < 9; permissions++) {
            CHECK.due(about + " way " + path, profile.way(permissions), model.way(permissions));
        }
        // Without a table the path is still typed; a rule that is none takes it away before the next path.
        CHECK.due(about + " rule of " + path, profile.rule(true, 0), model.rule(true, 0));
    }

    private static void typeBoth(GlobProfile profile, Model model, String text) {
        for (int i = 0; i < text.length(); i += 4) {
            String part = text.substring(i, Math.min(i + 4, text.length()));
            int word = Typist.word(part);
            CHECK.due("type " + text, profile.type(word, part.length()), model.type(word, part.length()));
            callsOfRun++;
        }
    }

    private static void mixedCalls(int seed) {
        Random random = new Random(1000003L * seed);
        GlobProfile profile = new GlobProfile();
        Model model = new Model();
        callsOfRun = 0;
        while (callsOfRun <= MOST_CALLS) {
            String about = "run " + seed + " call " + callsOfRun + " ";
            mixedCall(about, profile, model, random);
            lookAtOne(about, profile, model, random.nextInt(4));
            callsOfRun += 3;
        }
    }

    private static void mixedCall(String about, GlobProfile profile, Model model, Random random) {
        int number = random.nextInt(8) == 0 ? random.nextInt() : random.nextInt(12) - 2;
        switch (random.nextInt(20)) {
            case 0 -> CHECK.due(about + "drop", profile.drop(number), model.drop(number));
            case 1 -> CHECK.due(about + "pieces", profile.pieces(number), model.pieces(number));
            case 2 -> {
                int cap = random.nextInt(6) == 0 ? number : random.nextInt(124);
                CHECK.due(about + "compile", profile.compile(cap), model.compile(cap));
            }
            case 3 -> CHECK.due(about + "gives", profile.gives(number), model.gives(number));
            case 4 -> CHECK.due(about + "match", profile.match(), model.match());
            case 5 -> CHECK.due(about + "restart", profile.restart(), model.restart());
            case 6 -> CHECK.due(about + "way", profile.way(number), model.way(number));
            case 7 -> CHECK.due(about + "type", profile.type(number, number), model.type(number, number));
            case 8, 9, 10 -> {
                int b = random.nextInt(4) == 0 ? number : "ab/".charAt(random.nextInt(3));
                CHECK.due(about + "walk", profile.walk(b), model.walk(b));
                CHECK.due(about + "next", profile.next(number, b), model.next(number, b));
            }
            case 11, 12, 13 -> typeBoth(profile, model, random.nextBoolean() ? Globs.path(random) : Globs.noise(random));
            case 14, 15 -> {
                typeBoth(profile, model, Globs.glob(random, random.nextInt(5) + 1));
                addRule(about, profile, model, random);
            }
            default -> addRule(about, profile, model, random);
        }
    }

    private static void lookAtOne(String about, GlobProfile profile, Model model, int which) {
        switch (which) {
            case 0 -> CHECK.due(about + "rules", profile.rules(), model.rules());
            case 1 -> CHECK.due(about + "sets", profile.sets(), model.sets());
            case 2 -> CHECK.due(about + "states", profile.states(), model.states());
            default -> CHECK.due(about + "place", profile.place(), model.place());
        }
    }

    private static void addRule(String about, GlobProfile profile, Model model, Random random) {
        boolean allow = random.nextBoolean();
        int permissions = random.nextInt(6) == 0 ? random.nextInt(12) - 2 : random.nextInt(7) + 1;
        CHECK.due(about + "rule", profile.rule(allow, permissions), model.rule(allow, permissions));
    }
}
