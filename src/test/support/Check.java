/** Counts the calls whose answer is not the one that is due, prints them, and ends the test with exit code 1. */
final class Check {
    private static final int MOST_PRINTED = 40;
    private int calls;
    private int wrong;

    void due(String call, long got, long want) {
        count(got == want, call + " answered " + got + ", due is " + want);
    }

    void due(String call, boolean got, boolean want) {
        due(call, got ? 1 : 0, want ? 1 : 0);
    }

    /** Of two long texts only the first lines that differ are printed. */
    void same(String about, String got, String want) {
        String[] gotLines = got.split("\n");
        String[] wantLines = want.split("\n");
        int i = 0;
        while (i < gotLines.length && i < wantLines.length && gotLines[i].equals(wantLines[i])) {
            i++;
        }
        count(got.equals(want), about + ": seen is " + lineAt(gotLines, i) + ", due is " + lineAt(wantLines, i));
    }

    void end() {
        System.out.println(wrong == 0 ? calls + " answers are as due" : wrong + " of " + calls + " answers are not as due");
        if (wrong != 0) {
            System.exit(1);
        }
    }

    private void count(boolean right, String report) {
        calls++;
        if (right) {
            return;
        }
        wrong++;
        if (wrong <= MOST_PRINTED) {
            System.out.println(report);
        }
    }

    private static String lineAt(String[] lines, int i) {
        return i < lines.length ? "\"" + lines[i] + "\"" : "nothing";
    }
}
