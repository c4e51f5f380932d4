/** Profiles from texts, and their whole tables. */
final class Profiles {
    private Profiles() {
    }

    /** Rules as texts: "ab" allows 1, "6:ab" allows 6, and "-6:ab" denies 6. */
    static GlobProfile of(String... rules) {
        GlobProfile x = new GlobProfile();
        for (String rule : rules) {
            int colon = rule.indexOf(':');
            String glob = rule.substring(colon + 1);
            int permissions = colon < 0 ? 1 : Math.abs(Integer.parseInt(rule.substring(0, colon)));
            Typist.type(x, glob);
            x.rule(!rule.startsWith("-"), permissions);
        }
        return x;
    }

    static GlobProfile compiled(String... rules) {
        GlobProfile x = of(rules);
        x.compile(120);
        return x;
    }

    /** Where each byte leads from each state, read with an object for each, since one may be used for 512 calls. */
    static int[][] table(String... rules) {
        int[][] rows = new int[compiled(rules).states()][256];
        for (int s = 0; s < rows.length; s++) {
            GlobProfile x = compiled(rules);
            for (int b = 0; b < 256; b++) {
                rows[s][b] = x.next(s, b);
            }
        }
        return rows;
    }
}
