/** Types whole texts, and rules and paths, into a profile. */
final class Typist {
    private Typist() {
    }

    static int word(String text) {
        int word = 0;
        for (int i = 0; i < text.length(); i++) {
            word = word << 8 | text.charAt(i) & 255;
        }
        return word;
    }

    static boolean type(GlobProfile profile, String text) {
        boolean typed = true;
        for (int i = 0; i < text.length(); i += 4) {
            String part = text.substring(i, Math.min(i + 4, text.length()));
            typed &= profile.type(word(part), part.length());
        }
        return typed;
    }

    static int allow(GlobProfile profile, String glob, int permissions) {
        type(profile, glob);
        return profile.rule(true, permissions);
    }

    static int deny(GlobProfile profile, String glob, int permissions) {
        type(profile, glob);
        return profile.rule(false, permissions);
    }

    static int match(GlobProfile profile, String path) {
        type(profile, path);
        return profile.match();
    }

    /** The permissions of any row of bytes, also of those that cannot be typed. */
    static int walk(GlobProfile profile, String path) {
        profile.restart();
        int permissions = profile.gives(0);
        for (int i = 0; i < path.length(); i++) {
            permissions = profile.walk(path.charAt(i));
        }
        return permissions;
    }
}
