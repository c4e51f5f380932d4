import java.util.BitSet;

/** The sentences of the document's terms on globs: each one's last good text and first faulty one. */
public final class GlobTermsTest {
    private static final Check CHECK = new Check();
    private static final String SPECIAL = "*?[]{}\\";
    private static final String NO_ELEMENTS = "[]^-\\";
    private static final int LEAST = 33;
    private static final int GREATEST = 126;

    public static void main(String[] args) {
        atLeastOneItem();
        plainCharacters();
        specialCharacters();
        commas();
        escapes();
        anyByteButSlash();
        elements();
        elementsAmongOthers();
        ranges();
        rangesAmongOthers();
        rangesThatFall();
        atLeastOneElement();
        neverSlash();
        starsComeAnyNumberOfTimes();
        twoStarsFromTheLeft();
        starsThatDoNotTouch();
        rowsOfAChoice();
        emptyRows();
        choicesInChoices();
        wrongEnds();
        textsThatDoNotEnd();
        firstOfManyFaults();
        faultsAtEveryPlace();
        CHECK.end();
    }

    private static void faulty(String glob, int p) {
        CHECK.due("fault of " + glob, Typist.allow(new GlobProfile(), glob, 1), -1 - p);
    }

    private static void good(String glob, int pieces) {
        GlobProfile x = new GlobProfile();
        CHECK.due("rule of " + glob, Typist.allow(x, glob, 1), 0);
        CHECK.due("pieces of " + glob, x.pieces(0), pieces);
    }

    private static void reads(String glob, BitSet bytes) {
        BitSet read = Bytes.readBy(glob);
        CHECK.same("bytes read by " + glob, String.valueOf(read), String.valueOf(bytes));
        good(glob, 1);
    }

    private static void matches(String glob, String path, boolean due) {
        GlobProfile x = new GlobProfile();
        Typist.allow(x, glob, 1);
        x.compile(120);
        CHECK.due(glob + " matches " + path, Typist.match(x, path), due ? 1 : 0);
    }

    /** "A GLOB is a text of ITEMS, at least one", "at the text's end, if .. there is no item". */
    private static void atLeastOneItem() {
        faulty("", 0);
        good("a", 1);
        good("{,}", 0);
        good("a".repeat(40), 40);
    }

    /** "a character other than * ? [ ] { } \ (and other than a comma in a choice): just that byte". */
    private static void plainCharacters() {
        for (char c = LEAST; c <= GREATEST; c++) {
            if (SPECIAL.indexOf(c) < 0) {
                reads(String.valueOf(c), Bytes.of(c));
            }
        }
    }

    private static void specialCharacters() {
        BitSet noSlash = Bytes.allBut(Bytes.of('/'));
        reads("*", noSlash);
        reads("?", noSlash);
        faulty("[", 1);
        faulty("]", 0);
        faulty("{", 1);
        faulty("}", 0);
        faulty("\\", 1);
    }

    /** A comma is a piece outside of choices, before them and behind them too, and an end of a row in each of them. */
    private static void commas() {
        good(",", 1);
        good(",{a,b}", 3);
        good("{a,b},", 3);
        good("{,},{,}", 1);
        good("{a,{b,c},d}", 4);
        matches("{a,b},c", "a,c", true);
        matches("{a,b},c", "a", false);
        matches(",{a,b}", ",b", true);
        matches("{a,b}", "a,b", false);
        matches("{a,{b,c},d}", "d", true);
        matches("{a,{b,c},d}", "b,d", false);
        matches("{a[,]b,c}", "a,b", true);
        matches("{a\\,b,c}", "a,b", true);
    }

    /** "\ and a character: just that". */
    private static void escapes() {
        for (char c = LEAST; c <= GREATEST; c++) {
            reads("\\" + c, Bytes.of(c));
            good("{\\" + c + ",}", 1);
        }
        faulty("\\", 1);
        faulty("a\\", 2);
        faulty("\\\\\\", 3);
        faulty("{a,\\", 4);
        good("\\\\", 1);
        good("\\\\\\\\", 2);
    }

    /** "?: any byte but /", "*: any byte but /", "**: any byte". */
    private static void anyByteButSlash() {
        BitSet noSlash = Bytes.allBut(Bytes.of('/'));
        reads("?", noSlash);
        reads("*", noSlash);
        reads("**", Bytes.range(0, 255));
    }

    /** "An ELEMENT is a character other than [ ] ^ - \". */
    private static void elements() {
        for (char c = LEAST; c <= GREATEST; c++) {
            if (NO_ELEMENTS.indexOf(c) >= 0) {
                faulty("[^" + c + "]", 2);
            } else {
                reads("[" + c + "]", Bytes.without(Bytes.of(c), '/'));
                reads("[^" + c + "]", Bytes.allBut(Bytes.of(c, '/')));
            }
        }
        for (char c : "[]-\\".toCharArray()) {
            faulty("[" + c + "]", 1);
        }
        for (char c : "[^\\".toCharArray()) {
            faulty("[a" + c + "]", 2);
        }
    }

    private static void elementsAmongOthers() {
        reads("[ab]", Bytes.of('a', 'b'));
        reads("[aa]", Bytes.of('a'));
        reads("[!~]", Bytes.of('!', '~'));
        reads("[^!~]", Bytes.allBut(Bytes.of('!', '~', '/')));
        reads("[*?{},]", Bytes.of('*', '?', '{', '}', ','));
        reads("[" + "a".repeat(37) + "b]", Bytes.of('a', 'b'));
        reads("[^" + "a".repeat(36) + "b]", Bytes.allBut(Bytes.of('a', 'b', '/')));
    }

    /** "c-d, two of these, c not greater than d: all from c to d". */
    private static void ranges() {
        for (char c = LEAST; c <= GREATEST; c++) {
            for (char d = c; d <= GREATEST; d++) {
                if (NO_ELEMENTS.indexOf(c) < 0 && NO_ELEMENTS.indexOf(d) < 0) {
                    BitSet bytes = Bytes.without(Bytes.range(c, d), '/');
                    reads("[" + c + "-" + d + "]", bytes);
                    reads("[^" + c + "-" + d + "]", Bytes.without(Bytes.allBut(bytes), '/'));
                }
            }
        }
    }

    private static void rangesAmongOthers() {
        reads("[a-cx-z]", Bytes.both(Bytes.range('a', 'c'), Bytes.range('x', 'z')));
        reads("[a-cb-d]", Bytes.range('a', 'd'));
        reads("[.a-c]", Bytes.both(Bytes.of('.'), Bytes.range('a', 'c')));
        reads("[a-c.]", Bytes.both(Bytes.of('.'), Bytes.range('a', 'c')));
        reads("[^a-cx-z]", Bytes.without(Bytes.allBut(Bytes.both(Bytes.range('a', 'c'), Bytes.range('x', 'z'))), '/'));
        faulty("[a-b-c]", 4);
        faulty("[a-bc-]", 6);
        faulty("[-a]", 1);
        faulty("[^-a]", 2);
        faulty("[a--]", 3);
        for (char d : NO_ELEMENTS.toCharArray()) {
            faulty("[!-" + d + "]", 3);
            faulty("[^!-" + d + "]", 4);
        }
    }

    /** "for c-d with c greater than d: at d". */
    private static void rangesThatFall() {
        for (char c = LEAST; c <= GREATEST; c++) {
            for (char d = LEAST; d < c; d++) {
                if (NO_ELEMENTS.indexOf(c) < 0 && NO_ELEMENTS.indexOf(d) < 0) {
                    faulty("[" + c + "-" + d + "]", 3);
                }
            }
        }
        faulty("[^b-a]", 4);
        faulty("x[a-bd-c]", 7);
        faulty("[b-a", 3);
        good("[a-a]", 1);
        good("[a-b]", 1);
    }

    /** "There is at least one." */
    private static void atLeastOneElement() {
        faulty("[]", 1);
        faulty("[]a]", 1);
        faulty("[^]", 2);
        faulty("[^]a]", 2);
        good("[a]", 1);
        good("[^a]", 1);
    }

    /** "the bytes of its elements, never /", "all bytes but those of its elements and /". */
    private static void neverSlash() {
        reads("[/]", new BitSet());
        reads("[/-/]", new BitSet());
        reads("[.-0]", Bytes.of('.', '0'));
        reads("[/a]", Bytes.of('a'));
        reads("[a/]", Bytes.of('a'));
        reads("[^/]", Bytes.allBut(Bytes.of('/')));
        reads("[^.-0]", Bytes.allBut(Bytes.of('.', '/', '0')));
        reads("[^!-~]", Bytes.both(Bytes.range(0, 32), Bytes.range(127, 255)));
        reads("[!-~]", Bytes.without(Bytes.range(33, 126), '/'));
    }

    /** "it may come any number of times in a row, also not at all". */
    private static void starsComeAnyNumberOfTimes() {
        for (int n = 0; n <= 40; n++) {
            matches("*", "a".repeat(n), true);
            matches("**", "/".repeat(n), true);
            matches("*", "a".repeat(n / 2) + "/" + "a".repeat(Math.max(0, n - n / 2 - 1)), false);
            matches("?", "a".repeat(n), n == 1);
            matches("a", "a".repeat(n), n == 1);
        }
        for (int n = 0; n <= 38; n++) {
            matches("x*y", "x" + "a".repeat(n) + "y", true);
            matches("x**y", "x" + "/".repeat(n) + "y", true);
            matches("x*y", "x" + "/".repeat(n) + "y", n == 0);
        }
        GlobProfile x = new GlobProfile();
        Typist.allow(x, "*", 1);
        x.compile(120);
        for (int n = 1; n <= 500; n++) {
            CHECK.due("* behind " + n + " bytes", x.walk(n % 2 * 255), 1);
        }
        CHECK.due("* and / behind 500 bytes", x.walk('/'), 0);
    }

    /** "(Two * always are one **, from the left.)" */
    private static void twoStarsFromTheLeft() {
        for (int n = 1; n <= 40; n++) {
            good("*".repeat(n), (n + 1) / 2);
            matches("*".repeat(n), "/", n > 1);
        }
        // As * and then ** it would have five sets: behind a / only the ** and the a could read on.
        GlobProfile x = new GlobProfile();
        Typist.allow(x, "***a", 1);
        x.compile(120);
        CHECK.due("sets of ***a", x.sets(), 4);
    }

    private static void starsThatDoNotTouch() {
        good("*{,}*", 2);
        matches("*{,}*", "/", false);
        good("{*,*}*", 3);
        matches("{*,*}*", "/", false);
        good("*{*,a}", 3);
        matches("*{*,a}", "/", false);
        good("\\**", 2);
        matches("\\**", "*/", false);
        good("*\\*", 2);
        matches("*\\*", "/*", false);
        good("[*]*", 2);
        matches("[*]*", "*/", false);
        good("*[*]", 2);
        good("*?*", 3);
        matches("*?*", "/a", false);
        good("{**,a}", 2);
        matches("{**,a}", "/", true);
        good("{a,**}", 2);
        matches("{a,**}", "/", true);
    }

    /** "two or more rows of items", "for one row alone in a choice, at its }". */
    private static void rowsOfAChoice() {
        faulty("{}", 1);
        faulty("{a}", 2);
        faulty("{{a,b}}", 6);
        faulty("{a,{b}}", 5);
        faulty("{a,b}{c}", 7);
        faulty("{[,]}", 4);
        faulty("{\\,}", 3);
        faulty("{" + "a".repeat(38) + "}", 39);
        good("{a,b}", 2);
        good("{a,b,c}", 3);
        for (int commas = 1; commas <= 38; commas++) {
            good("{" + ",".repeat(commas) + "}", 0);
        }
        String rows = "{a,b,c,d,e,f,g,h,i,j,k,l,m,n,o,p,q,r,s}";
        good(rows, 19);
        CHECK.same("bytes read by " + rows, Bytes.readBy(rows).toString(), Bytes.range('a', 's').toString());
    }

    /** "each maybe empty". */
    private static void emptyRows() {
        for (String glob : new String[] {"x{,a}y", "x{a,}y", "x{a,,b}y", "x{,}y", "x{{,a},b}y", "x{b,{a,}}y", "x{a,{,}}y"}) {
            matches(glob, "xy", true);
            matches(glob, "xay", !glob.equals("x{,}y"));
            matches(glob, "xaay", false);
        }
        matches("x{a,b}y", "xy", false);
        matches("{,}", "", true);
        matches("{,}", "a", false);
        matches("{,}{,a}", "a", true);
    }

    /** "a choice is in at most one other", "for a choice in two others: at its {". */
    private static void choicesInChoices() {
        good("{a,b}", 2);
        good("{{a,b},c}", 3);
        good("{a,{b,c}}", 3);
        good("{{a,b}{c,d},{e,f}}{{g,h},i}", 9);
        good("{,}".repeat(13), 0);
        good("{" + "{,}".repeat(12) + ",}", 0);
        faulty("{{{", 2);
        faulty("{a,{b,{c,d}}}", 6);
        faulty("{{,{,},},}", 3);
        faulty("{{a,b},{c,{d,e}}}", 10);
        faulty("{a,b}{{c,d},{{", 13);
        good("{\\{{\\{,\\{},}", 3);
        good("{{[{],a},b}", 3);
    }

    /** "for a } or ] that ends nothing, at it". */
    private static void wrongEnds() {
        faulty("}", 0);
        faulty("]", 0);
        faulty("a}b", 1);
        faulty("a]b", 1);
        faulty("{a,b}}", 5);
        faulty("{a,b]}", 4);
        faulty("[a]]", 3);
        faulty("[^a]]", 4);
        faulty("{{a,b},c}}", 9);
        faulty("\\[a]", 3);
        faulty("\\{a,b}", 5);
        good("\\}\\]", 2);
        good("[}]", 1);
    }

    /** "at the text's end, if something is not ended". */
    private static void textsThatDoNotEnd() {
        String[] texts = {"{", "{a", "{a,", "{a,b", "{a,b}{", "{{a,b}", "{{a,b},", "{a,{b,c}", "[", "[^", "[a", "[^a", "[a-",
            "[a-c", "[a-cx", "\\", "ab\\", "{a,\\", "{a,[b", "{[", "a{b,c[d-"};
        for (String text : texts) {
            faulty(text, text.length());
            String longer = "x".repeat(40 - text.length()) + text;
            faulty(longer, 40);
        }
    }

    /** "A glob is FAULTY at the first character that cannot be as it is, read from the left". */
    private static void firstOfManyFaults() {
        faulty("a]b]c}", 1);
        faulty("{a}]", 2);
        faulty("[b-a]]", 3);
        faulty("[]{{{", 1);
        faulty("{{{}", 2);
        faulty("]{", 0);
        faulty("{a,b}]{", 5);
    }

    private static void faultsAtEveryPlace() {
        for (int p = 0; p < 40; p++) {
            faulty("a".repeat(p) + "]" + "b".repeat(39 - p), p);
            faulty("a".repeat(p) + "}" + "b".repeat(39 - p), p);
        }
        for (int p = 1; p < 40; p++) {
            faulty("a".repeat(p - 1) + "[]" + "b".repeat(39 - p), p);
        }
        for (int length = 0; length <= 39; length++) {
            faulty("a".repeat(length) + "{", length + 1);
        }
    }
}
