/**
 * Terms of a version solver, incompatibilities of them, and a partial choice.
 *
 * <p>A TERM is held as the places where it is true: bit v for version v, and the bit NO_VERSION for a
 * world that gives its name none. So BOTH is "and", EITHER is "or", the contrary is "all places but
 * these", EMPTY is 0, and a TERM is WANTED just if it isn't true at NO_VERSION.
 */
public final class DemandTerms {
    public static final int NONE = -1;

    private static final int MAX_NAMES = 16;
    private static final int MAX_VERSIONS = 48;
    private static final int MAX_TERMS = 600;
    private static final int MAX_CLASHES = 300;
    private static final int MAX_NEEDS = 400;
    private static final int KINDS = 8;

    private static final long NO_VERSION = 1L << MAX_VERSIONS;

    private static final int NO_SUCH = -2;
    private static final int ALWAYS = 1;
    private static final int NEVER = -1;
    private static final int SOMETIMES = 0;

    private static final int KEPT = 1;
    private static final int BROKEN = -1;
    private static final int FORCING = 2;
    private static final int UNDECIDED = 0;

    // Each round but the last one takes a place (a version, or none) of a name from the choice.
    private static final int MAX_ROUNDS = MAX_NAMES * (MAX_VERSIONS + 1) + 1;

    // A run and the gap behind it take two signs a version at the most ("10-11," of 10, 11 and 12);
    // the other five are "; ", "!", the letter and the blank.
    private static final int MAX_SIGNS = MAX_NAMES * (5 + 2 * (MAX_VERSIONS + 1));

    private final Names names;
    private final TermTable table;
    private final NeedRows rows;
    private final Clashes clashes;
    private final long[] choice;
    private final Page page;

    public DemandTerms() {
        names = new Names();
        table = new TermTable();
        rows = new NeedRows();
        clashes = new Clashes();
        choice = new long[MAX_NAMES];
        page = new Page();
    }

    public int versions(int n) {
        int name = names.add(n);
        if (name != NONE) {
            choice[name] = names.everywhere(name);
        }
        return name;
    }

    public int term(int name, long set, boolean wanted) {
        if (!names.has(name)) {
            return NONE;
        }
        return table.add(name, names.placesOf(name, set, wanted));
    }

    public int both(int a, int b, boolean either) {
        if (!table.has(a) || !table.has(b) || table.nameOf(a) != table.nameOf(b)) {
            return NONE;
        }
        long first = table.placesOf(a);
        long second = table.placesOf(b);
        return table.add(table.nameOf(a), either ? first | second : first & second);
    }

    public int relate(int a, int b) {
        if (!table.has(a) || !table.has(b)) {
            return NO_SUCH;
        }
        long first = table.placesOf(a);
        if (first != 0 && table.nameOf(a) != table.nameOf(b)) {
            return SOMETIMES;
        }
        return relation(first, table.placesOf(b));
    }

    public int about(int term, int what) {
        if (!table.has(term)) {
            return NONE;
        }
        return describe(table.nameOf(term), table.placesOf(term), what);
    }

    public long set(int term) {
        if (!table.has(term)) {
            return 0;
        }
        return names.setOf(table.nameOf(term), table.placesOf(term));
    }

    public boolean needs(int name, int version, int other, long set, int kind) {
        if (!names.hasVersion(name, version) || !names.has(other) || other == name) {
            return false;
        }
        if (kind < 0 || kind >= KINDS) {
            return false;
        }
        return rows.add(name, version, other, names.placesOf(other, set, true), kind);
    }

    public int derive(int name, int version) {
        if (!names.hasVersion(name, version)) {
            return NONE;
        }
        int before = clashes.size();
        for (int row = 0; row < rows.size(); row++) {
            if (rows.isOf(row, name, version) && !isDerived(row) && !deriveFrom(row)) {
                clashes.cutTo(before);
                return NONE;
            }
        }
        return clashes.size() - before;
    }

    public int bar(int name, long set, boolean demanded) {
        if (!names.has(name)) {
            return NONE;
        }
        int k = clashes.add(NONE, 0);
        if (k != NONE) {
            putPart(k, name, names.placesOf(name, set, !demanded));
        }
        return k;
    }

    public int learn(int a, int b, int name) {
        if (!clashes.holds(a, name) || !clashes.holds(b, name)) {
            return NONE;
        }
        int k = clashes.add(NONE, 0);
        if (k == NONE) {
            return NONE;
        }
        for (int each = 0; each < names.size(); each++) {
            long first = placesIn(a, each);
            long second = placesIn(b, each);
            putPart(k, each, each == name ? first | second : first & second);
        }
        return k;
    }

    public int count() {
        return clashes.size();
    }

    public int terms(int k) {
        return clashes.has(k) ? clashes.partsOf(k) : NONE;
    }

    public int part(int k, int i, int what) {
        int name = clashes.nameAt(k, i);
        if (name == NONE) {
            return NONE;
        }
        return describe(name, clashes.placesOf(k, name), what);
    }

    public long partSet(int k, int i) {
        int name = clashes.nameAt(k, i);
        if (name == NONE) {
            return 0;
        }
        return names.setOf(name, clashes.placesOf(k, name));
    }

    public boolean choose(int term) {
        if (!table.has(term)) {
            return false;
        }
        narrowChoice(table.nameOf(term), table.placesOf(term));
        return true;
    }

    public void forget() {
        for (int name = 0; name < names.size(); name++) {
            choice[name] = names.everywhere(name);
        }
    }

    public int state(int k) {
        return clashes.has(k) ? stateOf(k) : NO_SUCH;
    }

    public int forced(int k) {
        if (!clashes.has(k) || stateOf(k) != FORCING) {
            return NONE;
        }
        return clashes.indexOf(k, openName(k));
    }

    public int spread() {
        boolean forcing = true;
        for (int round = 0; forcing && round < MAX_ROUNDS; round++) {
            forcing = false;
            for (int k = 0; k < clashes.size(); k++) {
                int state = stateOf(k);
                if (state == KEPT) {
                    return firstKept();
                }
                if (state == FORCING) {
                    force(k);
                    forcing = true;
                }
            }
        }
        return NONE;
    }

    public int chosen(int name, int what) {
        return names.has(name) ? describe(name, choice[name], what) : NONE;
    }

    public long chosenSet(int name) {
        return names.has(name) ? names.setOf(name, choice[name]) : 0;
    }

    public int print(int k) {
        if (!clashes.has(k)) {
            return NONE;
        }
        page.clear();
        for (int name = 0; name < names.size(); name++) {
            if (clashes.holds(k, name)) {
                printPart(name, clashes.placesOf(k, name));
            }
        }
        return page.length();
    }

    public int at(int i) {
        return page.signAt(i);
    }

    private int describe(int name, long places, int what) {
        switch (what) {
            case 0:
                return name;
            case 1:
                return isWanted(places) ? 1 : 0;
            case 2:
                return Long.bitCount(names.setOf(name, places));
            default:
                return NONE;
        }
    }

    // An incompatibility made from an equal row stands for this one too, if its run reached this version.
    private boolean isDerived(int row) {
        int version = rows.versionOf(row);
        for (int k = 0; k < clashes.size(); k++) {
            if (rows.alike(clashes.sourceOf(k), row) && hasVersion(clashes.runOf(k), version)) {
                return true;
            }
        }
        return false;
    }

    private boolean deriveFrom(int row) {
        long run = runAround(rows.versionsLike(row), rows.versionOf(row));
        int k = clashes.add(row, run);
        if (k == NONE) {
            return false;
        }
        putPart(k, rows.nameOf(row), run);
        int other = rows.otherOf(row);
        putPart(k, other, names.placesOf(other, rows.neededOf(row), false));
        return true;
    }

    private void putPart(int k, int name, long places) {
        if (places != names.everywhere(name)) {
            clashes.put(k, name, places);
        }
    }

    // A name without a TERM binds nothing, just as a FULL one.
    private long placesIn(int k, int name) {
        return clashes.holds(k, name) ? clashes.placesOf(k, name) : names.everywhere(name);
    }

    private void narrowChoice(int name, long places) {
        if (names.has(name)) {
            choice[name] &= places;
        }
    }

    private int relationToChoice(int k, int name) {
        return names.has(name) ? relation(choice[name], clashes.placesOf(k, name)) : SOMETIMES;
    }

    private int stateOf(int k) {
        int open = 0;
        for (int name = 0; name < names.size(); name++) {
            if (clashes.holds(k, name)) {
                int relation = relationToChoice(k, name);
                if (relation == NEVER) {
                    return BROKEN;
                }
                if (relation == SOMETIMES) {
                    open++;
                }
            }
        }
        if (open == 0) {
            return KEPT;
        }
        return open == 1 ? FORCING : UNDECIDED;
    }

    private int openName(int k) {
        for (int name = 0; name < names.size(); name++) {
            if (clashes.holds(k, name) && relationToChoice(k, name) == SOMETIMES) {
                return name;
            }
        }
        return NONE;
    }

    private void force(int k) {
        int name = openName(k);
        if (name != NONE) {
            narrowChoice(name, names.everywhere(name) ^ clashes.placesOf(k, name));
        }
    }

    // One that was gone through too early to be KEPT may be so by now, and comes first then.
    private int firstKept() {
        for (int k = 0; k < clashes.size(); k++) {
            if (stateOf(k) == KEPT) {
                return k;
            }
        }
        return NONE;
    }

    private void printPart(int name, long places) {
        if (page.length() > 0) {
            page.put(';');
            page.put(' ');
        }
        if (!isWanted(places)) {
            page.put('!');
        }
        page.put((char) ('a' + name));
        page.put(' ');
        page.putRuns(names.setOf(name, places));
    }

    private static boolean isWanted(long places) {
        return (places & NO_VERSION) == 0;
    }

    private static boolean hasVersion(long set, int version) {
        return version >= 0 && version < MAX_VERSIONS && ((set >>> version) & 1L) != 0;
    }

    // NEVER is asked first: an EMPTY first TERM counts as never, not as always.
    private static int relation(long first, long second) {
        if ((first & second) == 0) {
            return NEVER;
        }
        return (first & ~second) == 0 ? ALWAYS : SOMETIMES;
    }

    private static long runAround(long versions, int version) {
        long run = 1L << version;
        for (int below = version - 1; below >= 0 && hasVersion(versions, below); below--) {
            run |= 1L << below;
        }
        for (int above = version + 1; above < MAX_VERSIONS && hasVersion(versions, above); above++) {
            run |= 1L << above;
        }
        return run;
    }

    /** The NAMES, each with all places where a TERM of it can be true. */
    private static final class Names {
        private final long[] places = new long[MAX_NAMES];
        private int size = 0;

        int size() {
            return size;
        }

        int add(int versionCount) {
            if (size >= MAX_NAMES || versionCount < 0 || versionCount > MAX_VERSIONS) {
                return NONE;
            }
            places[size] = ((1L << versionCount) - 1) | NO_VERSION;
            size++;
            return size - 1;
        }

        boolean has(int name) {
            return name >= 0 && name < size;
        }

        boolean hasVersion(int name, int version) {
            return DemandTerms.hasVersion(everywhere(name), version);
        }

        long everywhere(int name) {
            return has(name) ? places[name] : 0;
        }

        long placesOf(int name, long versionSet, boolean wanted) {
            long inside = versionSet & everywhere(name) & ~NO_VERSION;
            return wanted ? inside : everywhere(name) ^ inside;
        }

        long setOf(int name, long termPlaces) {
            return isWanted(termPlaces) ? termPlaces : everywhere(name) ^ termPlaces;
        }
    }

    /** The TERMS that were asked for by number; those of incompatibilities are not among them. */
    private static final class TermTable {
        private final int[] name = new int[MAX_TERMS];
        private final long[] places = new long[MAX_TERMS];
        private int size = 0;

        boolean has(int index) {
            return index >= 0 && index < size;
        }

        int add(int ofName, long truePlaces) {
            if (size >= MAX_TERMS) {
                return NONE;
            }
            name[size] = ofName;
            places[size] = truePlaces;
            size++;
            return size - 1;
        }

        int nameOf(int index) {
            return has(index) ? name[index] : NONE;
        }

        long placesOf(int index) {
            return has(index) ? places[index] : 0;
        }
    }

    /** The rows of NEEDS, as they came. */
    private static final class NeedRows {
        private final int[] name = new int[MAX_NEEDS];
        private final int[] version = new int[MAX_NEEDS];
        private final int[] other = new int[MAX_NEEDS];
        private final long[] needed = new long[MAX_NEEDS];
        private final int[] kind = new int[MAX_NEEDS];
        private int size = 0;

        int size() {
            return size;
        }

        boolean add(int ofName, int ofVersion, int otherName, long neededSet, int ofKind) {
            if (size >= MAX_NEEDS) {
                return false;
            }
            name[size] = ofName;
            version[size] = ofVersion;
            other[size] = otherName;
            needed[size] = neededSet;
            kind[size] = ofKind;
            size++;
            return true;
        }

        boolean has(int row) {
            return row >= 0 && row < size;
        }

        boolean isOf(int row, int ofName, int ofVersion) {
            return has(row) && name[row] == ofName && version[row] == ofVersion;
        }

        // Equal but for the version.
        boolean alike(int a, int b) {
            return has(a) && has(b) && name[a] == name[b] && other[a] == other[b]
                    && needed[a] == needed[b] && kind[a] == kind[b];
        }

        long versionsLike(int row) {
            long found = 0;
            for (int each = 0; each < size; each++) {
                if (alike(each, row)) {
                    found |= 1L << version[each];
                }
            }
            return found;
        }

        int nameOf(int row) {
            return has(row) ? name[row] : NONE;
        }

        int versionOf(int row) {
            return has(row) ? version[row] : NONE;
        }

        int otherOf(int row) {
            return has(row) ? other[row] : NONE;
        }

        long neededOf(int row) {
            return has(row) ? needed[row] : 0;
        }
    }

    /** The incompatibilities; each has a slot for every name, so that its TERMS are sorted by names. */
    private static final class Clashes {
        private final int[] held = new int[MAX_CLASHES];
        private final long[] places = new long[MAX_CLASHES * MAX_NAMES];
        // A TERM that is FULL falls away, so what was derived is told by its row, not by the TERMS.
        private final int[] source = new int[MAX_CLASHES];
        private final long[] run = new long[MAX_CLASHES];
        private int size = 0;

        int size() {
            return size;
        }

        boolean has(int k) {
            return k >= 0 && k < size;
        }

        int add(int sourceRow, long derivedRun) {
            if (size >= MAX_CLASHES) {
                return NONE;
            }
            held[size] = 0;
            source[size] = sourceRow;
            run[size] = derivedRun;
            size++;
            return size - 1;
        }

        void cutTo(int newSize) {
            if (newSize >= 0 && newSize < size) {
                size = newSize;
            }
        }

        void put(int k, int name, long truePlaces) {
            if (has(k) && name >= 0 && name < MAX_NAMES) {
                held[k] |= 1 << name;
                places[k * MAX_NAMES + name] = truePlaces;
            }
        }

        boolean holds(int k, int name) {
            return has(k) && name >= 0 && name < MAX_NAMES && ((held[k] >>> name) & 1) != 0;
        }

        long placesOf(int k, int name) {
            return holds(k, name) ? places[k * MAX_NAMES + name] : 0;
        }

        int partsOf(int k) {
            return has(k) ? Integer.bitCount(held[k]) : 0;
        }

        int nameAt(int k, int index) {
            for (int name = 0; name < MAX_NAMES; name++) {
                if (holds(k, name) && indexOf(k, name) == index) {
                    return name;
                }
            }
            return NONE;
        }

        int indexOf(int k, int name) {
            return holds(k, name) ? Integer.bitCount(held[k] & ((1 << name) - 1)) : NONE;
        }

        int sourceOf(int k) {
            return has(k) ? source[k] : NONE;
        }

        long runOf(int k) {
            return has(k) ? run[k] : 0;
        }
    }

    /** What was printed last. */
    private static final class Page {
        private final char[] signs = new char[MAX_SIGNS];
        private int length = 0;

        int length() {
            return length;
        }

        void clear() {
            length = 0;
        }

        void put(char sign) {
            if (length < signs.length) {
                signs[length] = sign;
                length++;
            }
        }

        void putRuns(long versionSet) {
            long starts = versionSet & ~(versionSet << 1);
            long ends = versionSet & ~(versionSet >>> 1);
            boolean first = true;
            for (int version = 0; version < MAX_VERSIONS; version++) {
                if (hasVersion(starts, version)) {
                    if (!first) {
                        put(',');
                    }
                    first = false;
                    putNumber(version);
                } else if (hasVersion(ends, version)) {
                    put('-');
                    putNumber(version);
                }
            }
        }

        private void putNumber(int number) {
            if (number >= 10) {
                put((char) ('0' + number / 10));
            }
            put((char) ('0' + number % 10));
        }

        int signAt(int i) {
            if (i < 0 || i >= length || i >= signs.length) {
                return NONE;
            }
            return signs[i];
        }
    }
}
