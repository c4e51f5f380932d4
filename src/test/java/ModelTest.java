import java.util.Random;

/** Long runs of calls, drawn with fixed seeds, whose every answer is the model's. */
public final class ModelTest {
    private static final int PROFILES = 300;
    private static final int RUNS = 100;
    private static final Check CHECK = new Check();

    public static void main(String[] args) {
        for (int seed = 0; seed < PROFILES; seed++) {
            wholeTable(seed);
        }
        for (int seed = 0; seed < RUNS; seed++) {
            mixedCalls(seed);
        }
        CHECK.end();
    }

    private static void wholeTable(int seed) {
        Random random = new Random(seed);
        GlobProfile profile = new GlobProfile();
        Model model = new Model();
        String about = "profile " + seed + ":";
        int rules = random.nextInt(5) + 1;
        for (int k = 0; k < rules; k++) {
            String glob = Globs.glob(random, random.nextInt(8) + 1);
            boolean allow = random.nextInt(3) > 0;
            int permissions = random.nextInt(7) + 1;
            about += " " + (allow ? "+" : "-") + permissions + glob;
            typeBoth(profile, model, glob);
            CHECK.due(about + " rule", profile.rule(allow, permissions), model.rule(allow, permissions));
            CHECK.due(about + " pieces", profile.pieces(k), model.pieces(k));
        }
        CHECK.due(about + " compile", profile.compile(120), model.compile(120));
        sameTable(about, profile, model);
        if (model.sets() > 1) {
            int sets = model.sets();
            CHECK.due(about + " compile at its sets", profile.compile(sets), model.compile(sets));
            CHECK.due(about + " compile below its sets", profile.compile(sets - 1), model.compile(sets - 1));
            profile.compile(sets);
            model.compile(sets);
        }
        for (int i = 0; i < 30; i++) {
            samePath(about, profile, model, random);
        }
    }

    private static void sameTable(String about, GlobProfile profile, Model model) {
        CHECK.due(about + " sets", profile.sets(), model.sets());
        CHECK.due(about + " states", profile.states(), model.states());
        for (int s = -1; s <= model.states(); s++) {
            CHECK.due(about + " gives " + s, profile.gives(s), model.gives(s));
            for (int b = -1; b <= 256; b++) {
                CHECK.due(about + " next " + s + " " + b, profile.next(s, b), model.next(s, b));
            }
        }
    }

    private static void samePath(String about, GlobProfile profile, Model model, Random random) {
        String path = Globs.path(random);
        typeBoth(profile, model, path);
        CHECK.due(about + " match " + path, profile.match(), model.match());
        profile.restart();
        if (model.restart()) {
            int last = model.permissionsOf("");
            for (int i = 0; i < path.length(); i++) {
                last = profile.walk(path.charAt(i));
                model.walk(path.charAt(i));
            }
            CHECK.due(about + " walk " + path, last, model.permissionsOf(path));
        }
        CHECK.due(about + " place " + path, profile.place(), model.place());
        for (int permissions = -1; permissions < 9; permissions++) {
            CHECK.due(about + " way " + path, profile.way(permissions), model.way(permissions));
        }
    }

    private static void typeBoth(GlobProfile profile, Model model, String text) {
        for (int i = 0; i < text.length(); i += 4) {
            String part = text.substring(i, Math.min(i + 4, text.length()));
            int word = Typist.word(part);
            CHECK.due("type " + text, profile.type(word, part.length()), model.type(word, part.length()));
        }
    }

    private static void mixedCalls(int seed) {
        Random random = new Random(1000003L * seed);
        GlobProfile profile = new GlobProfile();
        Model model = new Model();
        for (int call = 0; call < 500; call++) {
            mixedCall("run " + seed + " call " + call + " ", profile, model, random);
        }
    }

    private static void mixedCall(String about, GlobProfile profile, Model model, Random random) {
        int number = random.nextInt(8) == 0 ? random.nextInt() : random.nextInt(12) - 2;
        switch (random.nextInt(20)) {
            case 0 -> CHECK.due(about + "drop", profile.drop(number), model.drop(number));
            case 1 -> CHECK.due(about + "pieces", profile.pieces(number), model.pieces(number));
            case 2 -> {
                int cap = random.nextInt(6) == 0 ? number : random.nextInt(124);
                CHECK.due(about + "compile", profile.compile(cap), model.compile(cap));
            }
            case 3 -> CHECK.due(about + "gives", profile.gives(number), model.gives(number));
            case 4 -> CHECK.due(about + "match", profile.match(), model.match());
            case 5 -> CHECK.due(about + "restart", profile.restart(), model.restart());
            case 6 -> CHECK.due(about + "way", profile.way(number), model.way(number));
            case 7 -> CHECK.due(about + "type", profile.type(number, number), model.type(number, number));
            case 8, 9, 10 -> {
                int b = random.nextInt(4) == 0 ? number : "ab/".charAt(random.nextInt(3));
                CHECK.due(about + "walk", profile.walk(b), model.walk(b));
                CHECK.due(about + "next", profile.next(number, b), model.next(number, b));
            }
            case 11, 12, 13 -> typeBoth(profile, model, random.nextBoolean() ? Globs.path(random) : Globs.noise(random));
            case 14, 15 -> {
                typeBoth(profile, model, Globs.glob(random, random.nextInt(5) + 1));
                addRule(about, profile, model, random);
            }
            default -> addRule(about, profile, model, random);
        }
        CHECK.due(about + "rules", profile.rules(), model.rules());
        CHECK.due(about + "sets", profile.sets(), model.sets());
        CHECK.due(about + "states", profile.states(), model.states());
        CHECK.due(about + "place", profile.place(), model.place());
    }

    private static void addRule(String about, GlobProfile profile, Model model, Random random) {
        boolean allow = random.nextBoolean();
        int permissions = random.nextInt(6) == 0 ? random.nextInt(12) - 2 : random.nextInt(7) + 1;
        CHECK.due(about + "rule", profile.rule(allow, permissions), model.rule(allow, permissions));
    }
}
