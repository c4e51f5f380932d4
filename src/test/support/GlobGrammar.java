import java.util.regex.Pattern;

/** The document's grammar of globs as one regular expression, and faults told by what could still become a glob. */
final class GlobGrammar {
    private static final Pattern GLOB = Pattern.compile(glob());
    private static final String[] PIECE_ENDS = {"", "a", "]", "~]"};
    private static final String[] CHOICE_ENDS = {"", ",}", ",},}"};

    private GlobGrammar() {
    }

    static boolean isGlob(String text) {
        return GLOB.matcher(text).matches();
    }

    /** The first character up to which nothing put behind makes a glob, the length if there is no glob yet, or -1. */
    static int fault(String text) {
        for (int p = 0; p < text.length(); p++) {
            if (!canBecomeGlob(text.substring(0, p + 1))) {
                return p;
            }
        }
        return isGlob(text) ? -1 : text.length();
    }

    private static boolean canBecomeGlob(String begin) {
        for (String pieceEnd : PIECE_ENDS) {
            for (String choiceEnd : CHOICE_ENDS) {
                if (isGlob(begin + pieceEnd + choiceEnd)) {
                    return true;
                }
            }
        }
        return false;
    }

    private static String glob() {
        String brackets = "\\[\\^?(?:" + range() + "|" + elementOf('!') + ")+\\]";
        String special = "\\\\[!-~]|\\?|\\*|" + brackets;
        String inChoice = "(?:[!-~&&[^*?\\[\\]{}\\\\,]]|" + special + ")";
        String outside = "(?:[!-~&&[^*?\\[\\]{}\\\\]]|" + special + ")";
        String inner = choice(inChoice);
        String outer = choice("(?:" + inChoice + "|" + inner + ")");
        return "(?:" + outside + "|" + outer + ")+";
    }

    private static String choice(String item) {
        return "\\{" + item + "*(?:," + item + "*)+\\}";
    }

    private static String range() {
        StringBuilder ranges = new StringBuilder("(?:");
        for (char c = '!'; c <= '~'; c++) {
            if ("[]^-\\".indexOf(c) < 0) {
                ranges.append(c == '!' ? "" : "|").append(String.format("\\x%02x", (int) c)).append('-').append(elementOf(c));
            }
        }
        return ranges.append(')').toString();
    }

    private static String elementOf(char least) {
        return String.format("[\\x%02x-~&&[^\\[\\]\\^\\-\\\\]]", (int) least);
    }
}
