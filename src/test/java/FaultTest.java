import java.util.Random;

/** Promise 3, its faults: every short text over the characters that mean something, and long ones at random. */
public final class FaultTest {
    private static final String CHARACTERS = "a,b*?[]^-\\{}";
    private static final int LONGEST = 4;
    private static final int RANDOM_TEXTS = 20000;
    /** A text takes at most 12 calls, and an object may be used for 512. */
    private static final int TEXTS_FOR_ONE_OBJECT = 40;
    private static final Check CHECK = new Check();
    private static GlobProfile profile;
    private static int texts;

    public static void main(String[] args) {
        allTexts("");
        Random random = new Random(7);
        for (int i = 0; i < RANDOM_TEXTS; i++) {
            ruleOf(Globs.noise(random));
        }
        CHECK.end();
    }

    private static void allTexts(String begin) {
        ruleOf(begin);
        if (begin.length() == LONGEST) {
            return;
        }
        for (char c : CHARACTERS.toCharArray()) {
            allTexts(begin + c);
        }
    }

    private static void ruleOf(String text) {
        if (texts++ % TEXTS_FOR_ONE_OBJECT == 0) {
            profile = new GlobProfile();
        }
        CHECK.due("rule of " + text, Typist.allow(profile, text, 1), -1 - GlobGrammar.fault(text));
        profile.drop(0);
    }
}
