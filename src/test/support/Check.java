/** Counts the calls whose answer is not the one that is due, prints them, and ends the test with exit code 1. */
final class Check {
    private static final int MOST_PRINTED = 40;
    private int calls;
    private int wrong;

    void due(String call, long got, long want) {
        calls++;
        if (got == want) {
            return;
        }
        wrong++;
        if (wrong <= MOST_PRINTED) {
            System.out.println(call + " answered " + got + ", due is " + want);
        }
    }

    void due(String call, boolean got, boolean want) {
        due(call, got ? 1 : 0, want ? 1 : 0);
    }

    void end() {
        System.out.println(wrong == 0 ? calls + " answers are as due" : wrong + " of " + calls + " answers are not as due");
        if (wrong != 0) {
            System.exit(1);
        }
    }
}
