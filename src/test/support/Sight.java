import java.util.function.Consumer;

/**
 * What can be seen of an object behind some calls, as a text: of its table, its walk, its rules and what is typed.
 * Looking uses an object up, and one may be used for 512 calls, so each look makes the same calls on a new object.
 */
final class Sight {
    private static final int MOST_RULES = 6;
    private static final int MOST_TYPED = 40;
    /** Those at the borders of what pieces read, and those of the globs of the tests. */
    private static final int[] SOME_BYTES = {0, 32, 33, 44, 46, 47, 48, 97, 98, 99, 122, 126, 127, 255};
    private static final int STATES_OF_ONE_LOOK = 20;

    private final Consumer<GlobProfile> calls;
    private final StringBuilder seen = new StringBuilder();

    private Sight(Consumer<GlobProfile> calls) {
        this.calls = calls;
    }

    static String of(Consumer<GlobProfile> calls) {
        Sight sight = new Sight(calls);
        sight.lookAtAnswers();
        sight.lookAtWholeTable();
        sight.lookAtWalk();
        sight.lookAtTyped();
        sight.lookAtRules();
        return sight.seen.toString();
    }

    private static GlobProfile made(Consumer<GlobProfile> calls) {
        GlobProfile x = new GlobProfile();
        calls.accept(x);
        return x;
    }

    private void line(String what, long... numbers) {
        seen.append(what);
        for (long number : numbers) {
            seen.append(' ').append(number);
        }
        seen.append('\n');
    }

    private void lookAtAnswers() {
        GlobProfile x = made(calls);
        line("rules", x.rules());
        for (int k = -1; k <= MOST_RULES; k++) {
            line("pieces " + k, x.pieces(k));
        }
        line("sets", x.sets());
        line("states", x.states());
        line("place", x.place());
        for (int permissions = 0; permissions <= 8; permissions++) {
            line("way " + permissions, x.way(permissions));
        }
        line("place behind way", x.place());
    }

    private void lookAtWholeTable() {
        int states = made(calls).states();
        for (int s = -1; s <= states; s++) {
            GlobProfile x = made(calls);
            long[] row = new long[256];
            for (int b = 0; b < row.length; b++) {
                row[b] = x.next(s, b);
            }
            line("state " + s + " gives " + x.gives(s) + " leads to", row);
        }
    }

    private void lookAtWalk() {
        for (int b : SOME_BYTES) {
            GlobProfile x = made(calls);
            line("walk by " + b, x.walk(b), x.place(), x.walk('a'), x.place(), x.walk('b'), x.place());
        }
        GlobProfile x = made(calls);
        line("restart", x.restart() ? 1 : 0, x.place(), x.walk('a'), x.place());
    }

    private void lookAtTyped() {
        GlobProfile x = made(calls);
        line("match", x.match(), x.match());
        x = made(calls);
        line("compile and match", x.compile(120), x.match());
        x = made(calls);
        int more = 0;
        while (more <= MOST_TYPED && x.type('a', 1)) {
            more++;
        }
        line("room for more", more);
        x = made(calls);
        line("rule of what is typed", x.rule(true, 7), x.rule(true, 7));
        Consumer<GlobProfile> typedAlone = calls.andThen(y -> {
            dropAllBut(y, -1);
            y.rule(true, 7);
        });
        lookAtTableOf("typed alone", typedAlone);
    }

    /** Each rule beside one that allows all, which makes visible what it denies. */
    private void lookAtRules() {
        int rules = made(calls).rules();
        for (int k = 0; k < rules; k++) {
            int kept = k;
            lookAtTableOf("rule " + k + " alone", calls.andThen(y -> keepOnly(y, kept)));
            lookAtTableOf("rule " + k + " and **", calls.andThen(y -> {
                keepOnly(y, kept);
                Typist.allow(y, "**", 7);
            }));
        }
    }

    private static void keepOnly(GlobProfile x, int k) {
        // A rule that is refused takes away what is typed.
        x.rule(true, 0);
        dropAllBut(x, k);
    }

    private static void dropAllBut(GlobProfile x, int k) {
        for (int i = x.rules() - 1; i >= 0; i--) {
            if (i != k) {
                x.drop(i);
            }
        }
    }

    private void lookAtTableOf(String about, Consumer<GlobProfile> changed) {
        GlobProfile x = made(changed);
        line(about, x.rules(), x.pieces(0), x.pieces(1), x.compile(120), x.sets());
        int states = x.states();
        for (int from = 0; from < states; from += STATES_OF_ONE_LOOK) {
            x = made(changed);
            x.compile(120);
            for (int s = from; s < states && s < from + STATES_OF_ONE_LOOK; s++) {
                long[] row = new long[SOME_BYTES.length];
                for (int i = 0; i < row.length; i++) {
                    row[i] = x.next(s, SOME_BYTES[i]);
                }
                line(about + ": state " + s + " gives " + x.gives(s) + " leads to", row);
            }
        }
    }
}
