import java.util.Random;

/** Globs, texts that are almost globs, and paths, of few different bytes so that they meet. */
final class Globs {
    private static final int MOST = 40;
    private static final String PLAIN = "aabbc/.,";
    private static final String NOISE = "ab/,,*?[[]]^-\\{{}}}~!";

    private Globs() {
    }

    static String glob(Random random, int items) {
        String glob = "";
        while (glob.isEmpty() || glob.length() > MOST) {
            glob = items(random, items, 0, false);
        }
        return glob;
    }

    static String noise(Random random) {
        StringBuilder text = new StringBuilder();
        int length = random.nextInt(14);
        for (int i = 0; i < length; i++) {
            text.append(random.nextInt(4) == 0 ? items(random, 1, 1, false) : "" + NOISE.charAt(random.nextInt(NOISE.length())));
        }
        return text.substring(0, Math.min(text.length(), MOST));
    }

    static String path(Random random) {
        StringBuilder path = new StringBuilder();
        int length = random.nextInt(9);
        for (int i = 0; i < length; i++) {
            path.append("aaabbc//.,*-~!".charAt(random.nextInt(14)));
        }
        return path.toString();
    }

    private static String items(Random random, int count, int depth, boolean inChoice) {
        StringBuilder text = new StringBuilder();
        for (int i = 0; i < count; i++) {
            text.append(item(random, depth, inChoice));
        }
        return text.toString();
    }

    private static String item(Random random, int depth, boolean inChoice) {
        switch (random.nextInt(12)) {
            case 0:
                return "?";
            case 1:
                return "*";
            case 2:
                return "**";
            case 3:
                return "\\" + "a/*,\\]{}".charAt(random.nextInt(8));
            case 4:
                return brackets(random);
            case 5:
                return depth < 2 ? choice(random, depth + 1) : "a";
            default:
                char c = PLAIN.charAt(random.nextInt(PLAIN.length()));
                return inChoice && c == ',' ? "b" : "" + c;
        }
    }

    private static String choice(Random random, int depth) {
        StringBuilder text = new StringBuilder("{");
        int rows = random.nextInt(2) + 2;
        for (int r = 0; r < rows; r++) {
            text.append(r == 0 ? "" : ",").append(items(random, random.nextInt(3), depth, true));
        }
        return text.append('}').toString();
    }

    private static String brackets(Random random) {
        StringBuilder text = new StringBuilder(random.nextInt(3) == 0 ? "[^" : "[");
        int elements = random.nextInt(2) + 1;
        for (int i = 0; i < elements; i++) {
            text.append(new String[] {"a", "b", "/", "a-b", ".-0", "!-~", ",", "*", "}", "b-b"}[random.nextInt(10)]);
        }
        return text.append(']').toString();
    }
}
