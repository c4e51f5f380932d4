import java.util.Arrays;

/**
 * Profiles that allow and deny paths by patterns: the patterns are read, made into one table with as few states as
 * can be, and paths are matched, or walked, byte by byte, each byte looked at once.
 *
 * <p>All rows are made with the object and used again by every call, so that no call makes anything new.
 */
public final class GlobProfile {
    private static final int MOST_TYPED = 40;
    private static final int MOST_RULES = 6;
    private static final int MOST_PIECES = 60;
    private static final int MOST_SETS = 120;
    private static final int MOST_PERMISSIONS = 7;
    private static final int RULE_REFUSED = -1000;
    private static final int TOO_MANY_SETS = -1;
    private static final int CAP_REFUSED = -2;
    private static final int NONE = -1;

    private static final int BYTES = 256;
    private static final int LEAST_CHARACTER = 33;
    private static final int GREATEST_CHARACTER = 126;
    // Bytes that cannot be typed are told apart by no glob: symbol 0 stands for them all, the others have one each.
    private static final int SYMBOLS = GREATEST_CHARACTER - LEAST_CHARACTER + 2;

    // Pieces are bits from 1 on; bit 0 is the beginning of a way, which makes the empty path's set one of its own.
    private static final long BEGINNING = 1L;

    private final Typed typed;
    private final GlobReader reader;
    private final Rule[] slots;
    private final Union union;
    private final Table table;
    private int ruleCount;
    private int walkState;

    public GlobProfile() {
        typed = new Typed();
        reader = new GlobReader(typed);
        slots = new Rule[MOST_RULES];
        for (int i = 0; i < slots.length; i++) {
            slots[i] = new Rule();
        }
        union = new Union();
        table = new Table(union);
        ruleCount = 0;
        walkState = 0;
    }

    public boolean type(int word, int n) {
        return typed.append(word, n);
    }

    public int rule(boolean allow, int permissions) {
        int fault = reader.read();
        typed.clear();
        if (fault >= 0) {
            return -1 - fault;
        }
        Rule slot = slotAt(ruleCount);
        if (permissions < 1 || permissions > MOST_PERMISSIONS || slot == null) {
            return RULE_REFUSED;
        }
        if (pieceSum() + reader.glob.pieceCount > MOST_PIECES) {
            return RULE_REFUSED;
        }
        slot.fill(reader.glob, allow, permissions);
        table.clear();
        ruleCount++;
        return ruleCount - 1;
    }

    public boolean drop(int k) {
        Rule dropped = ruleAt(k);
        if (dropped == null) {
            return false;
        }
        // The rule that goes changes places with each behind it: its slot is the room of one to come.
        for (int i = k; i + 1 < ruleCount && i + 1 < slots.length; i++) {
            slots[i] = slots[i + 1];
            slots[i + 1] = dropped;
        }
        ruleCount--;
        table.clear();
        return true;
    }

    public int rules() {
        return ruleCount;
    }

    public int pieces(int k) {
        Rule rule = ruleAt(k);
        return rule == null ? NONE : rule.glob.pieceCount;
    }

    public int compile(int cap) {
        if (cap < 1 || cap > MOST_SETS) {
            return CAP_REFUSED;
        }
        union.clear();
        for (int k = 0; k < ruleCount; k++) {
            union.add(ruleAt(k));
        }
        union.groupSymbols();
        walkState = 0;
        return table.make(cap) ? table.stateCount : TOO_MANY_SETS;
    }

    public int sets() {
        return table.isMade() ? table.setCount() : 0;
    }

    public int states() {
        return table.stateCount;
    }

    public int next(int s, int b) {
        return table.step(s, b);
    }

    public int gives(int s) {
        return table.permissionsAt(s);
    }

    public int match() {
        if (!table.isMade()) {
            return NONE;
        }
        int state = 0;
        for (int i = 0; i < typed.length; i++) {
            state = table.step(state, typed.characterAt(i));
        }
        typed.clear();
        return table.permissionsAt(state);
    }

    public int walk(int b) {
        int to = table.step(walkState, b);
        if (to < 0) {
            return NONE;
        }
        walkState = to;
        return table.permissionsAt(to);
    }

    public boolean restart() {
        if (!table.isMade()) {
            return false;
        }
        walkState = 0;
        return true;
    }

    public int place() {
        return table.isMade() ? walkState : NONE;
    }

    public int way(int permissions) {
        if (!table.isMade()) {
            return NONE;
        }
        for (int b = 0; b < BYTES; b++) {
            if ((table.permissionsAt(table.step(walkState, b)) & permissions) != 0) {
                return b;
            }
        }
        return NONE;
    }

    private Rule slotAt(int k) {
        return k >= 0 && k < slots.length ? slots[k] : null;
    }

    private Rule ruleAt(int k) {
        return k < ruleCount ? slotAt(k) : null;
    }

    private int pieceSum() {
        int sum = 0;
        for (int k = 0; k < ruleCount; k++) {
            sum += pieces(k);
        }
        return sum;
    }

    private static int symbolOf(int b) {
        return b < LEAST_CHARACTER || b > GREATEST_CHARACTER ? 0 : b - LEAST_CHARACTER + 1;
    }

    /** What is typed. */
    private static final class Typed {
        /** Stands behind the last character; it cannot be typed. */
        static final char END = 0;

        private final char[] characters = new char[MOST_TYPED];
        private int length;

        boolean append(int word, int n) {
            if (n < 1 || n > 4 || length + n > characters.length) {
                return false;
            }
            for (int i = 0; i < n; i++) {
                int b = byteOf(word, i);
                if (b < LEAST_CHARACTER || b > GREATEST_CHARACTER) {
                    return false;
                }
            }
            for (int i = n - 1; i >= 0; i--) {
                characters[length] = (char) byteOf(word, i);
                length++;
            }
            return true;
        }

        char characterAt(int i) {
            return i >= 0 && i < length ? characters[i] : END;
        }

        void clear() {
            length = 0;
        }

        private static int byteOf(int word, int i) {
            return word >>> 8 * i & 255;
        }
    }

    /** A glob with what its rule does to the paths that it matches. */
    private static final class Rule {
        private final Glob glob = new Glob();
        private boolean allows;
        private int permissions;

        void fill(Glob source, boolean allow, int granted) {
            glob.copy(source);
            allows = allow;
            permissions = granted;
        }
    }

    /**
     * The pieces of a glob, numbered from 1, with those that can come right behind each. It grows from the left, piece
     * by piece: no piece but * and ** comes twice, so what may stand before the next piece is always known.
     */
    private static final class Glob {
        private static final int MOST_DEPTH = 2;

        private final long[] behind = new long[MOST_TYPED + 1];
        private final long[] readersOf = new long[SYMBOLS];
        private final long[] endsBefore = new long[MOST_DEPTH];
        private final long[] endsOfRows = new long[MOST_DEPTH];
        private final int[] rowCount = new int[MOST_DEPTH];
        private int pieceCount;
        private int depth;
        /** The pieces, or the beginning, at which a way through all that has been added can end. */
        private long ends;

        void clear() {
            Arrays.fill(behind, 0L);
            Arrays.fill(readersOf, 0L);
            pieceCount = 0;
            depth = 0;
            ends = BEGINNING;
        }

        /** Takes over the pieces of a glob that is read to its end. */
        void copy(Glob source) {
            if (source == null) {
                return;
            }
            System.arraycopy(source.behind, 0, behind, 0, behind.length);
            System.arraycopy(source.readersOf, 0, readersOf, 0, readersOf.length);
            pieceCount = source.pieceCount;
            depth = source.depth;
            ends = source.ends;
        }

        void addPiece(boolean repeats) {
            if (pieceCount + 1 >= behind.length) {
                return;
            }
            pieceCount++;
            long piece = 1L << pieceCount;
            long before = repeats ? ends | piece : ends;
            for (int p = 0; p <= pieceCount; p++) {
                if ((before >>> p & 1L) != 0) {
                    behind[p] |= piece;
                }
            }
            ends = repeats ? before : piece;
        }

        /** Says whether the newest piece reads the bytes of some symbols. */
        void setReads(int leastSymbol, int greatestSymbol, boolean reads) {
            long piece = 1L << pieceCount;
            for (int s = leastSymbol; s >= 0 && s <= greatestSymbol && s < readersOf.length; s++) {
                readersOf[s] = reads ? readersOf[s] | piece : readersOf[s] & ~piece;
            }
        }

        boolean isInChoice() {
            return depth > 0;
        }

        /** False if a choice cannot begin here. */
        boolean beginChoice() {
            if (depth >= MOST_DEPTH) {
                return false;
            }
            endsBefore[depth] = ends;
            endsOfRows[depth] = 0L;
            rowCount[depth] = 1;
            depth++;
            return true;
        }

        /** False if there is no choice that could have one more row. */
        boolean beginRow() {
            int inner = depth - 1;
            if (inner < 0) {
                return false;
            }
            endsOfRows[inner] |= ends;
            ends = endsBefore[inner];
            rowCount[inner]++;
            return true;
        }

        /** False if there is no choice that could end. */
        boolean endChoice() {
            int inner = depth - 1;
            if (inner < 0 || rowCount[inner] < 2) {
                return false;
            }
            ends |= endsOfRows[inner];
            depth = inner;
            return true;
        }
    }

    /** Reads what is typed as a glob. */
    private static final class GlobReader {
        private final Typed text;
        private final Glob glob = new Glob();
        private int at;
        private int fault;

        GlobReader(Typed text) {
            this.text = text;
        }

        /** The character at which the text is faulty, or NONE; the glob holds its pieces then. */
        int read() {
            at = 0;
            fault = NONE;
            glob.clear();
            int length = text.length;
            for (int parts = 0; parts < length && at < length && fault == NONE; parts++) {
                readPart();
            }
            if (fault == NONE && (length == 0 || glob.isInChoice())) {
                fault = length;
            }
            return fault;
        }

        private void readPart() {
            char c = text.characterAt(at);
            switch (c) {
                case '{':
                    pass(glob.beginChoice());
                    break;
                case '}':
                    pass(glob.endChoice());
                    break;
                case ']':
                    pass(false);
                    break;
                case ',':
                    if (glob.beginRow()) {
                        pass(true);
                    } else {
                        readByte();
                    }
                    break;
                case '\\':
                    pass(true);
                    readByte();
                    break;
                case '?':
                    addAnyButSlash(false);
                    pass(true);
                    break;
                case '*':
                    readStars();
                    break;
                case '[':
                    readBrackets();
                    break;
                default:
                    readByte();
                    break;
            }
        }

        private void pass(boolean mayBeHere) {
            if (mayBeHere) {
                at++;
            } else {
                fault = at;
            }
        }

        private void readByte() {
            char c = text.characterAt(at);
            if (c != Typed.END) {
                glob.addPiece(false);
                setReads(c, c, true);
            }
            pass(c != Typed.END);
        }

        private void readStars() {
            pass(true);
            if (text.characterAt(at) == '*') {
                glob.addPiece(true);
                setReadsAll();
                pass(true);
            } else {
                addAnyButSlash(true);
            }
        }

        private void readBrackets() {
            pass(true);
            glob.addPiece(false);
            boolean others = text.characterAt(at) == '^';
            if (others) {
                setReadsAll();
                pass(true);
            }
            for (int elements = 0; elements < MOST_TYPED && fault == NONE; elements++) {
                if (elements > 0 && text.characterAt(at) == ']') {
                    break;
                }
                readElement(!others);
            }
            if (fault == NONE) {
                setReads('/', '/', false);
                pass(text.characterAt(at) == ']');
            }
        }

        private void readElement(boolean reads) {
            char least = text.characterAt(at);
            char greatest = least;
            pass(isElement(least));
            if (fault == NONE && text.characterAt(at) == '-') {
                pass(true);
                greatest = text.characterAt(at);
                pass(isElement(greatest) && least <= greatest);
            }
            if (fault == NONE) {
                setReads(least, greatest, reads);
            }
        }

        private static boolean isElement(char c) {
            return c != Typed.END && c != '[' && c != ']' && c != '^' && c != '-' && c != '\\';
        }

        private void addAnyButSlash(boolean repeats) {
            glob.addPiece(repeats);
            setReadsAll();
            setReads('/', '/', false);
        }

        private void setReadsAll() {
            glob.setReads(0, SYMBOLS - 1, true);
        }

        private void setReads(char least, char greatest, boolean reads) {
            glob.setReads(symbolOf(least), symbolOf(greatest), reads);
        }
    }

    /** The pieces of all rules under one numbering, and the symbols that are read by the same pieces as one column. */
    private static final class Union {
        private final long[] behind = new long[MOST_PIECES + 1];
        private final long[] readersOf = new long[SYMBOLS];
        private final int[] columnOf = new int[SYMBOLS];
        private final long[] readersOfColumn = new long[SYMBOLS];
        private final long[] endsOf = new long[MOST_RULES];
        private final int[] allowedBy = new int[MOST_RULES];
        private final int[] deniedBy = new int[MOST_RULES];
        private int pieceCount;
        private int ruleCount;
        private int columnCount;

        void clear() {
            Arrays.fill(behind, 0L);
            Arrays.fill(readersOf, 0L);
            pieceCount = 0;
            ruleCount = 0;
        }

        void add(Rule rule) {
            if (rule == null || ruleCount >= MOST_RULES || pieceCount + rule.glob.pieceCount > MOST_PIECES) {
                return;
            }
            Glob glob = rule.glob;
            behind[0] |= moved(glob.behind[0]);
            for (int p = 1; p <= glob.pieceCount && p < glob.behind.length; p++) {
                behind[pieceCount + p] = moved(glob.behind[p]);
            }
            for (int s = 0; s < SYMBOLS; s++) {
                readersOf[s] |= moved(glob.readersOf[s]);
            }
            endsOf[ruleCount] = moved(glob.ends);
            allowedBy[ruleCount] = rule.allows ? rule.permissions : 0;
            deniedBy[ruleCount] = rule.allows ? 0 : rule.permissions;
            ruleCount++;
            pieceCount += glob.pieceCount;
        }

        /** A glob's own pieces as they are numbered behind those of the rules before; the beginning is all rules'. */
        private long moved(long own) {
            return own & BEGINNING | (own & ~BEGINNING) << pieceCount;
        }

        /** Columns rise with their least bytes, so going by rising columns comes to states as rising bytes do. */
        void groupSymbols() {
            columnCount = 0;
            for (int s = 0; s < SYMBOLS; s++) {
                columnOf[s] = columnFor(readersOf[s]);
            }
        }

        /** The column that the readers have, a new one if there is none. */
        private int columnFor(long readers) {
            for (int c = 0; c < columnCount && c < SYMBOLS; c++) {
                if (readersOfColumn[c] == readers) {
                    return c;
                }
            }
            if (columnCount >= SYMBOLS) {
                return NONE;
            }
            readersOfColumn[columnCount] = readers;
            columnCount++;
            return columnCount - 1;
        }

        int columnOfByte(int b) {
            return columnOf[symbolOf(b)];
        }

        /** The pieces that can come right behind one of a set. */
        long behindAll(long set) {
            long all = 0L;
            for (int p = 0; p <= MOST_PIECES; p++) {
                if ((set >>> p & 1L) != 0) {
                    all |= behind[p];
                }
            }
            return all;
        }

        long readersOfColumn(int c) {
            return c >= 0 && c < columnCount ? readersOfColumn[c] : 0L;
        }

        int permissionsOf(long set) {
            int allowed = 0;
            int denied = 0;
            for (int k = 0; k < ruleCount; k++) {
                if ((set & endsOf[k]) != 0) {
                    allowed |= allowedBy[k];
                    denied |= deniedBy[k];
                }
            }
            return allowed & ~denied;
        }
    }

    /** The sets that there are, numbered as they are found, and where each column leads from each. */
    private static final class SetGraph {
        private static final int SLOTS = 256;
        // An odd number without a plain pattern, so that a product's high bits depend on all pieces of the set.
        private static final long SPREAD = 0x9E3779B97F4A7C15L;

        private final Union union;
        private final long[] found = new long[MOST_SETS];
        private final int[] leads = new int[MOST_SETS * SYMBOLS];
        /** By the sets' hash: 1 and the number of the set that is there, 0 where there is none. */
        private final int[] slots = new int[SLOTS];
        private int count;

        SetGraph(Union union) {
            this.union = union;
        }

        /** False if there are more than cap sets. */
        boolean explore(int cap) {
            Arrays.fill(slots, 0);
            count = 0;
            numberOf(BEGINNING, cap);
            for (int i = 0; i < count && i < MOST_SETS; i++) {
                if (!exploreFrom(i, cap)) {
                    return false;
                }
            }
            return true;
        }

        private boolean exploreFrom(int i, int cap) {
            long candidates = union.behindAll(found[i]);
            for (int c = 0; c < union.columnCount && c < SYMBOLS; c++) {
                int to = numberOf(candidates & union.readersOfColumn(c), cap);
                if (to < 0) {
                    return false;
                }
                leads[i * SYMBOLS + c] = to;
            }
            return true;
        }

        /** The set's number, a new one if it has none; NONE if that would be one too many. */
        private int numberOf(long set, int cap) {
            int slot = (int) (set * SPREAD >>> 56);
            for (int tries = 0; tries < SLOTS; tries++) {
                int i = slots[slot] - 1;
                if (i < 0 || i >= count) {
                    return add(set, slot, cap);
                }
                if (found[i] == set) {
                    return i;
                }
                slot = slot + 1 & SLOTS - 1;
            }
            return NONE;
        }

        private int add(long set, int slot, int cap) {
            if (count >= cap || count >= MOST_SETS) {
                return NONE;
            }
            found[count] = set;
            count++;
            slots[slot] = count;
            return count - 1;
        }

        int lead(int i, int c) {
            if (i < 0 || i >= count || c < 0 || c >= union.columnCount) {
                return NONE;
            }
            int at = i * SYMBOLS + c;
            return at < leads.length ? leads[at] : NONE;
        }

        int permissionsOf(int i) {
            return i >= 0 && i < count ? union.permissionsOf(found[i]) : NONE;
        }
    }

    /** The states: kinds of sets whose paths are alike, in the order in which they are come to. */
    private static final class Table {
        private final Union union;
        private final SetGraph graph;
        private final int[] kindOf = new int[MOST_SETS];
        private final int[] finerKindOf = new int[MOST_SETS];
        /** One set of each kind, that stands for all of it. */
        private final int[] leaderOf = new int[MOST_SETS];
        private final int[] stateOfKind = new int[MOST_SETS];
        private final int[] setOfState = new int[MOST_SETS];
        private final int[] permissionsOf = new int[MOST_SETS];
        private int kindCount;
        /** 0 if there is no table. */
        private int stateCount;

        Table(Union union) {
            this.union = union;
            graph = new SetGraph(union);
        }

        boolean isMade() {
            return stateCount > 0;
        }

        void clear() {
            stateCount = 0;
        }

        int setCount() {
            return graph.count;
        }

        /** False, and no table, if there are more than cap sets. */
        boolean make(int cap) {
            clear();
            if (!graph.explore(cap)) {
                return false;
            }
            partByPermissions();
            boolean parted = true;
            // Each round but the last finds one kind more at least, and there are no more kinds than sets.
            for (int round = 0; round <= MOST_SETS && parted; round++) {
                parted = partByLeads();
            }
            numberStates();
            return true;
        }

        private void partByPermissions() {
            kindCount = 0;
            for (int i = 0; i < graph.count && i < MOST_SETS; i++) {
                kindOf[i] = graph.permissionsOf(i);
            }
        }

        /** Parts the sets of one kind from which some byte leads to different kinds; false if there are none. */
        private boolean partByLeads() {
            int finer = 0;
            for (int i = 0; i < graph.count && i < MOST_SETS; i++) {
                int k = 0;
                while (k < finer && !areOfOneKind(leaderOf[k], i)) {
                    k++;
                }
                if (k == finer) {
                    leaderOf[k] = i;
                    finer++;
                }
                finerKindOf[i] = k;
            }
            boolean parted = finer > kindCount;
            System.arraycopy(finerKindOf, 0, kindOf, 0, MOST_SETS);
            kindCount = finer;
            return parted;
        }

        private boolean areOfOneKind(int i, int j) {
            if (kindOfSet(i) != kindOfSet(j)) {
                return false;
            }
            for (int c = 0; c < union.columnCount; c++) {
                int fromI = graph.lead(i, c);
                int fromJ = graph.lead(j, c);
                if (fromI != fromJ && kindOfSet(fromI) != kindOfSet(fromJ)) {
                    return false;
                }
            }
            return true;
        }

        private int kindOfSet(int i) {
            return i >= 0 && i < graph.count && i < MOST_SETS ? kindOf[i] : NONE;
        }

        private void numberStates() {
            Arrays.fill(stateOfKind, NONE);
            giveNumber(0);
            for (int s = 0; s < stateCount && s < MOST_SETS; s++) {
                for (int c = 0; c < union.columnCount; c++) {
                    giveNumber(graph.lead(setOfState[s], c));
                }
            }
        }

        private void giveNumber(int i) {
            int kind = kindOfSet(i);
            if (kind < 0 || kind >= MOST_SETS || stateCount >= MOST_SETS || stateOfKind[kind] != NONE) {
                return;
            }
            stateOfKind[kind] = stateCount;
            setOfState[stateCount] = i;
            permissionsOf[stateCount] = graph.permissionsOf(i);
            stateCount++;
        }

        /** The state to which a byte leads; NONE if there is no such state or byte. */
        int step(int s, int b) {
            if (s < 0 || s >= stateCount || b < 0 || b >= BYTES) {
                return NONE;
            }
            int kind = kindOfSet(graph.lead(setOfState[s], union.columnOfByte(b)));
            return kind >= 0 && kind < MOST_SETS ? stateOfKind[kind] : NONE;
        }

        int permissionsAt(int s) {
            return s >= 0 && s < stateCount ? permissionsOf[s] : NONE;
        }
    }
}
