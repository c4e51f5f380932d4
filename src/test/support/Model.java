import java.util.ArrayList;
import java.util.BitSet;
import java.util.LinkedHashMap;
import java.util.List;
import java.util.Map;
import java.util.regex.Pattern;

/**
 * What the document asks for, done slowly and from its words: each glob is the list of all ways through it, faults come
 * from the grammar, permissions from Java's regular expressions, and states from pairs of paths that are told apart.
 */
final class Model {
    private record Piece(int number, BitSet bytes, boolean repeats) {
    }

    private record Rule(List<List<Piece>> ways, Pattern regex, int pieces, boolean allow, int permissions) {
    }

    /** For each way, how many of its pieces can have read the whole path; and the pieces that can have read its end. */
    private record Reading(String path, List<boolean[]> reached, BitSet lastPieces) {
    }

    private record Table(int sets, int[][] next, int[] gives) {
    }

    private final List<Rule> kept = new ArrayList<>();
    private String typed = "";
    private Table table;
    private int walkState;

    boolean type(int word, int n) {
        if (n < 1 || n > 4 || typed.length() + n > 40) {
            return false;
        }
        String more = "";
        for (int i = n - 1; i >= 0; i--) {
            more += (char) (word >> 8 * i & 255);
        }
        if (!more.matches("[!-~]+")) {
            return false;
        }
        typed += more;
        return true;
    }

    int rule(boolean allow, int permissions) {
        String glob = typed;
        typed = "";
        int fault = GlobGrammar.fault(glob);
        if (fault >= 0) {
            return -1 - fault;
        }
        Parser parser = new Parser(glob);
        List<List<Piece>> ways = parser.items(false);
        int sum = parser.pieces;
        for (Rule rule : kept) {
            sum += rule.pieces;
        }
        if (permissions < 1 || permissions > 7 || kept.size() == 6 || sum > 60) {
            return -1000;
        }
        Pattern regex = Pattern.compile(parser.regex.toString(), Pattern.DOTALL);
        kept.add(new Rule(ways, regex, parser.pieces, allow, permissions));
        table = null;
        return kept.size() - 1;
    }

    boolean drop(int k) {
        if (k < 0 || k >= kept.size()) {
            return false;
        }
        kept.remove(k);
        table = null;
        return true;
    }

    int rules() {
        return kept.size();
    }

    int pieces(int k) {
        return k < 0 || k >= kept.size() ? -1 : kept.get(k).pieces;
    }

    int compile(int cap) {
        if (cap < 1 || cap > 120) {
            return -2;
        }
        table = makeTable(cap);
        walkState = 0;
        return table == null ? -1 : table.gives.length;
    }

    int sets() {
        return table == null ? 0 : table.sets;
    }

    int states() {
        return table == null ? 0 : table.gives.length;
    }

    int next(int s, int b) {
        return s < 0 || s >= states() || b < 0 || b > 255 ? -1 : table.next[s][b];
    }

    int gives(int s) {
        return s < 0 || s >= states() ? -1 : table.gives[s];
    }

    int match() {
        if (table == null) {
            return -1;
        }
        int permissions = permissionsOf(typed);
        typed = "";
        return permissions;
    }

    int walk(int b) {
        if (table == null || b < 0 || b > 255) {
            return -1;
        }
        walkState = table.next[walkState][b];
        return table.gives[walkState];
    }

    boolean restart() {
        walkState = 0;
        return table != null;
    }

    int place() {
        return table == null ? -1 : walkState;
    }

    int way(int permissions) {
        for (int b = 0; b < 256 && table != null; b++) {
            if ((table.gives[table.next[walkState][b]] & permissions) != 0) {
                return b;
            }
        }
        return -1;
    }

    int permissionsOf(String path) {
        int allowed = 0;
        int denied = 0;
        for (Rule rule : kept) {
            if (rule.regex.matcher(path).matches()) {
                allowed |= rule.allow ? rule.permissions : 0;
                denied |= rule.allow ? 0 : rule.permissions;
            }
        }
        return allowed & ~denied;
    }

    private Reading emptyPath() {
        List<boolean[]> reached = new ArrayList<>();
        for (Rule rule : kept) {
            for (List<Piece> way : rule.ways) {
                boolean[] row = new boolean[way.size() + 1];
                row[0] = true;
                for (int j = 0; j < way.size(); j++) {
                    row[j + 1] = row[j] && way.get(j).repeats;
                }
                reached.add(row);
            }
        }
        return new Reading("", reached, new BitSet());
    }

    private Reading longer(Reading reading, int b) {
        List<boolean[]> reached = new ArrayList<>();
        BitSet lastPieces = new BitSet();
        int index = 0;
        for (int k = 0; k < kept.size(); k++) {
            for (List<Piece> way : kept.get(k).ways) {
                boolean[] before = reading.reached.get(index++);
                boolean[] row = new boolean[way.size() + 1];
                for (int j = 0; j < way.size(); j++) {
                    Piece piece = way.get(j);
                    boolean readsIt = piece.bytes.get(b) && (before[j] || piece.repeats && before[j + 1]);
                    row[j + 1] = readsIt || piece.repeats && row[j];
                    if (readsIt) {
                        lastPieces.set(k * 64 + piece.number);
                    }
                }
                reached.add(row);
            }
        }
        return new Reading(reading.path + (char) b, reached, lastPieces);
    }

    private Table makeTable(int cap) {
        List<Reading> found = new ArrayList<>();
        Map<BitSet, Integer> numberOf = new LinkedHashMap<>();
        List<int[]> leads = new ArrayList<>();
        found.add(emptyPath());
        for (int i = 0; i < found.size(); i++) {
            int[] row = new int[256];
            for (int b = 0; b < 256; b++) {
                Reading to = longer(found.get(i), b);
                Integer number = numberOf.get(to.lastPieces);
                if (number == null) {
                    number = found.size();
                    numberOf.put(to.lastPieces, number);
                    found.add(to);
                    if (found.size() > cap) {
                        return null;
                    }
                }
                row[b] = number;
            }
            leads.add(row);
        }
        if (found.size() > cap) {
            return null;
        }
        int[] gives = new int[found.size()];
        for (int i = 0; i < gives.length; i++) {
            gives[i] = permissionsOf(found.get(i).path);
        }
        return numbered(leads, gives, toldApart(leads, gives));
    }

    private static List<Integer> differentBytes(List<int[]> leads) {
        Map<List<Integer>, Integer> leastByte = new LinkedHashMap<>();
        for (int b = 0; b < 256; b++) {
            List<Integer> column = new ArrayList<>();
            for (int[] row : leads) {
                column.add(row[b]);
            }
            leastByte.putIfAbsent(column, b);
        }
        return new ArrayList<>(leastByte.values());
    }

    private static boolean[][] toldApart(List<int[]> leads, int[] gives) {
        int n = gives.length;
        List<Integer> bytes = differentBytes(leads);
        boolean[][] apart = new boolean[n][n];
        boolean changed = true;
        while (changed) {
            changed = false;
            for (int i = 0; i < n; i++) {
                for (int j = 0; j < n; j++) {
                    if (!apart[i][j] && areToldApart(leads.get(i), leads.get(j), bytes, apart, gives[i] != gives[j])) {
                        apart[i][j] = true;
                        changed = true;
                    }
                }
            }
        }
        return apart;
    }

    private static boolean areToldApart(int[] a, int[] b, List<Integer> bytes, boolean[][] apart, boolean now) {
        boolean told = now;
        for (int i = 0; i < bytes.size() && !told; i++) {
            told = apart[a[bytes.get(i)]][b[bytes.get(i)]];
        }
        return told;
    }

    private static Table numbered(List<int[]> leads, int[] gives, boolean[][] apart) {
        List<Integer> order = new ArrayList<>(List.of(0));
        List<int[]> next = new ArrayList<>();
        for (int s = 0; s < order.size(); s++) {
            int[] row = new int[256];
            for (int b = 0; b < 256; b++) {
                int to = leads.get(order.get(s))[b];
                int state = 0;
                while (state < order.size() && apart[order.get(state)][to]) {
                    state++;
                }
                if (state == order.size()) {
                    order.add(to);
                }
                row[b] = state;
            }
            next.add(row);
        }
        int[] stateGives = new int[order.size()];
        for (int s = 0; s < stateGives.length; s++) {
            stateGives[s] = gives[order.get(s)];
        }
        return new Table(gives.length, next.toArray(new int[0][]), stateGives);
    }

    /** All ways through a text that is a glob, and the glob as a regular expression of Java. */
    private static final class Parser {
        private final String text;
        private final StringBuilder regex = new StringBuilder();
        private int at;
        private int pieces;

        Parser(String text) {
            this.text = text;
        }

        List<List<Piece>> items(boolean inChoice) {
            List<List<Piece>> ways = new ArrayList<>(List.of(List.of()));
            while (at < text.length() && !(inChoice && ",}".indexOf(text.charAt(at)) >= 0)) {
                List<List<Piece>> more = text.charAt(at) == '{' ? choice() : List.of(List.of(piece()));
                List<List<Piece>> joined = new ArrayList<>();
                for (List<Piece> way : ways) {
                    for (List<Piece> rest : more) {
                        List<Piece> both = new ArrayList<>(way);
                        both.addAll(rest);
                        joined.add(both);
                    }
                }
                ways = joined;
            }
            return ways;
        }

        private List<List<Piece>> choice() {
            List<List<Piece>> ways = new ArrayList<>();
            regex.append("(?:");
            do {
                at++;
                ways.addAll(items(true));
                regex.append(text.charAt(at) == ',' ? "|" : ")");
            } while (text.charAt(at) == ',');
            at++;
            return ways;
        }

        private Piece piece() {
            String any = "[^/]";
            BitSet bytes = new BitSet();
            bytes.set(0, 256);
            bytes.clear('/');
            boolean repeats = false;
            if (text.startsWith("**", at)) {
                at += 2;
                bytes.set('/');
                repeats = true;
                regex.append(".*");
            } else if (text.charAt(at) == '*') {
                at++;
                repeats = true;
                regex.append(any).append('*');
            } else if (text.charAt(at) == '?') {
                at++;
                regex.append(any);
            } else if (text.charAt(at) == '[') {
                bytes = brackets();
                regex.append(regexOf(bytes));
            } else {
                at += text.charAt(at) == '\\' ? 1 : 0;
                bytes.clear();
                bytes.set(text.charAt(at++));
                regex.append(regexOf(bytes));
            }
            return new Piece(pieces++, bytes, repeats);
        }

        private BitSet brackets() {
            int end = text.indexOf(']', at);
            String inside = text.substring(at + 1, end);
            at = end + 1;
            BitSet bytes = new BitSet();
            String elements = inside.startsWith("^") ? inside.substring(1) : inside;
            for (int i = 0; i < elements.length(); i++) {
                if (elements.charAt(i) == '-') {
                    bytes.set(elements.charAt(i - 1), elements.charAt(i + 1));
                } else {
                    bytes.set(elements.charAt(i));
                }
            }
            if (inside.startsWith("^")) {
                bytes.flip(0, 256);
            }
            bytes.clear('/');
            return bytes;
        }

        private static String regexOf(BitSet bytes) {
            if (bytes.isEmpty()) {
                return "(?!)";
            }
            StringBuilder set = new StringBuilder("[");
            for (int b = bytes.nextSetBit(0); b >= 0; b = bytes.nextSetBit(b + 1)) {
                set.append(String.format("\\x%02x", b));
            }
            return set.append(']').toString();
        }
    }
}
