import java.util.ArrayList;
import java.util.List;
import java.util.Map;
import java.util.TreeMap;
import java.util.TreeSet;
import java.util.function.IntPredicate;

/** The document's words, slowly: a TERM is asked about each version of its name, and about none (-1). */
final class Model {
    private static final int NONE = -1;

    /** A TERM, as the document tells it. */
    record Term(int name, boolean wanted, TreeSet<Integer> set) {
        boolean isTrue(int version) {
            return wanted == set.contains(version);
        }

        boolean isEmpty() {
            return wanted && set.isEmpty();
        }

        boolean isFull() {
            return !wanted && set.isEmpty();
        }

        Term contrary() {
            return new Term(name, !wanted, set);
        }
    }

    record Need(int name, int version, int other, TreeSet<Integer> set, int kind) {
        Need at(int newVersion) {
            return new Need(name, newVersion, other, set, kind);
        }
    }

    /** An incompatibility, and the needs that it stands for if it was derived. */
    record Clash(TreeMap<Integer, Term> terms, List<Need> derived) {
        Term get(int i) {
            return i < 0 || i >= terms.size() ? null : new ArrayList<>(terms.values()).get(i);
        }
    }

    private final List<Integer> versionCounts = new ArrayList<>();
    private final List<Term> terms = new ArrayList<>();
    private final List<Need> needs = new ArrayList<>();
    private final List<Clash> clashes = new ArrayList<>();
    private final List<Term> choice = new ArrayList<>();
    private String printed = "";

    private static <T> T find(List<T> list, int i) {
        return i < 0 || i >= list.size() ? null : list.get(i);
    }

    private boolean hasName(int name) {
        return find(versionCounts, name) != null;
    }

    private boolean hasVersion(int name, int version) {
        return hasName(name) && version >= 0 && version < versionCounts.get(name);
    }

    private TreeSet<Integer> setOf(int name, long bits) {
        return where(name, v -> (bits >> v & 1) == 1);
    }

    private TreeSet<Integer> where(int name, IntPredicate holds) {
        TreeSet<Integer> found = new TreeSet<>();
        for (int v = 0; v < versionCounts.get(name); v++) {
            if (holds.test(v)) {
                found.add(v);
            }
        }
        return found;
    }

    private Term termWhere(int name, IntPredicate holds) {
        return holds.test(-1) ? new Term(name, false, where(name, holds.negate())) : new Term(name, true, where(name, holds));
    }

    private Term bothOf(Term a, Term b) {
        return termWhere(a.name(), v -> a.isTrue(v) && b.isTrue(v));
    }

    private Term eitherOf(Term a, Term b) {
        return termWhere(a.name(), v -> a.isTrue(v) || b.isTrue(v));
    }

    private int relation(Term a, Term b) {
        boolean always = true;
        boolean never = true;
        for (int v = -1; v < versionCounts.get(a.name()); v++) {
            if (a.isTrue(v)) {
                always &= b.isTrue(v);
                never &= !b.isTrue(v);
            }
        }
        return never ? -1 : always ? 1 : 0;
    }

    private static int describe(Term term, int what) {
        if (term == null || what < 0 || what > 2) {
            return NONE;
        }
        return what == 0 ? term.name() : what == 1 ? (term.wanted() ? 1 : 0) : term.set().size();
    }

    private static long bits(Term term) {
        long found = 0;
        if (term != null) {
            for (int v : term.set()) {
                found += 1L << v;
            }
        }
        return found;
    }

    int versions(int n) {
        if (versionCounts.size() == 16 || n < 0 || n > 48) {
            return NONE;
        }
        versionCounts.add(n);
        choice.add(new Term(choice.size(), false, new TreeSet<>()));
        return versionCounts.size() - 1;
    }

    int term(int name, long set, boolean wanted) {
        return hasName(name) ? addTerm(new Term(name, wanted, setOf(name, set))) : NONE;
    }

    private int addTerm(Term term) {
        if (terms.size() == 600) {
            return NONE;
        }
        terms.add(term);
        return terms.size() - 1;
    }

    int both(int a, int b, boolean either) {
        Term first = find(terms, a);
        Term second = find(terms, b);
        if (first == null || second == null || first.name() != second.name()) {
            return NONE;
        }
        return addTerm(either ? eitherOf(first, second) : bothOf(first, second));
    }

    int relate(int a, int b) {
        Term first = find(terms, a);
        Term second = find(terms, b);
        if (first == null || second == null) {
            return -2;
        }
        if (first.isEmpty()) {
            return -1;
        }
        return first.name() == second.name() ? relation(first, second) : 0;
    }

    int about(int term, int what) {
        return describe(find(terms, term), what);
    }

    long set(int term) {
        return bits(find(terms, term));
    }

    boolean needs(int name, int version, int other, long set, int kind) {
        if (!hasVersion(name, version) || !hasName(other) || name == other || kind < 0 || kind > 7 || needs.size() == 400) {
            return false;
        }
        return needs.add(new Need(name, version, other, setOf(other, set), kind));
    }

    int derive(int name, int version) {
        if (!hasVersion(name, version)) {
            return NONE;
        }
        List<Clash> found = new ArrayList<>();
        for (Need need : needs) {
            if (need.name() == name && need.version() == version && !isDerived(clashes, need) && !isDerived(found, need)) {
                found.add(derived(need));
            }
        }
        if (clashes.size() + found.size() > 300) {
            return NONE;
        }
        clashes.addAll(found);
        return found.size();
    }

    private static boolean isDerived(List<Clash> among, Need need) {
        return among.stream().anyMatch(clash -> clash.derived().contains(need));
    }

    private Clash derived(Need need) {
        List<Need> run = new ArrayList<>();
        TreeSet<Integer> versions = new TreeSet<>();
        int low = need.version();
        while (needs.contains(need.at(low - 1))) {
            low--;
        }
        for (int v = low; needs.contains(need.at(v)); v++) {
            run.add(need.at(v));
            versions.add(v);
        }
        return clash(run, new Term(need.name(), true, versions), new Term(need.other(), false, need.set()));
    }

    private static Clash clash(List<Need> derived, Term... parts) {
        Clash made = new Clash(new TreeMap<>(), derived);
        for (Term part : parts) {
            if (!part.isFull()) {
                made.terms().put(part.name(), part);
            }
        }
        return made;
    }

    private int addClash(Clash clash) {
        if (clashes.size() == 300) {
            return NONE;
        }
        clashes.add(clash);
        return clashes.size() - 1;
    }

    int bar(int name, long set, boolean demanded) {
        return hasName(name) ? addClash(clash(List.of(), new Term(name, !demanded, setOf(name, set)))) : NONE;
    }

    int learn(int a, int b, int name) {
        Clash first = find(clashes, a);
        Clash second = find(clashes, b);
        if (first == null || second == null || !first.terms().containsKey(name) || !second.terms().containsKey(name)) {
            return NONE;
        }
        TreeMap<Integer, Term> parts = new TreeMap<>(first.terms());
        for (Map.Entry<Integer, Term> each : second.terms().entrySet()) {
            parts.merge(each.getKey(), each.getValue(), this::bothOf);
        }
        parts.put(name, eitherOf(first.terms().get(name), second.terms().get(name)));
        return addClash(clash(List.of(), parts.values().toArray(new Term[0])));
    }

    int count() {
        return clashes.size();
    }

    int terms(int k) {
        return find(clashes, k) == null ? NONE : clashes.get(k).terms().size();
    }

    int part(int k, int i, int what) {
        return find(clashes, k) == null ? NONE : describe(clashes.get(k).get(i), what);
    }

    long partSet(int k, int i) {
        return find(clashes, k) == null ? 0 : bits(clashes.get(k).get(i));
    }

    boolean choose(int term) {
        if (find(terms, term) == null) {
            return false;
        }
        choose(terms.get(term));
        return true;
    }

    private void choose(Term term) {
        choice.set(term.name(), bothOf(choice.get(term.name()), term));
    }

    void forget() {
        choice.replaceAll(term -> new Term(term.name(), false, new TreeSet<>()));
    }

    int state(int k) {
        if (find(clashes, k) == null) {
            return -2;
        }
        int broken = 0;
        int open = 0;
        for (Term term : clashes.get(k).terms().values()) {
            int relation = relation(choice.get(term.name()), term);
            broken += relation == -1 ? 1 : 0;
            open += relation == 0 ? 1 : 0;
        }
        return broken > 0 ? -1 : open == 0 ? 1 : open == 1 ? 2 : 0;
    }

    int forced(int k) {
        for (int i = 0; state(k) == 2 && i < terms(k); i++) {
            Term term = clashes.get(k).get(i);
            if (relation(choice.get(term.name()), term) == 0) {
                return i;
            }
        }
        return NONE;
    }

    int spread() {
        while (true) {
            boolean forcing = false;
            for (int k = 0; k < clashes.size(); k++) {
                if (state(k) == 1) {
                    return firstKept();
                }
                if (state(k) == 2) {
                    forcing = true;
                    choose(clashes.get(k).get(forced(k)).contrary());
                }
            }
            if (!forcing) {
                return NONE;
            }
        }
    }

    private int firstKept() {
        int k = 0;
        while (state(k) != 1) {
            k++;
        }
        return k;
    }

    int chosen(int name, int what) {
        return describe(find(choice, name), what);
    }

    long chosenSet(int name) {
        return bits(find(choice, name));
    }

    int print(int k) {
        if (find(clashes, k) == null) {
            return NONE;
        }
        List<String> parts = new ArrayList<>();
        for (Term term : clashes.get(k).terms().values()) {
            parts.add((term.wanted() ? "" : "!") + (char) ('a' + term.name()) + " " + runs(term.set()));
        }
        printed = String.join("; ", parts);
        return printed.length();
    }

    private static String runs(TreeSet<Integer> set) {
        List<String> found = new ArrayList<>();
        for (int first : set) {
            if (!set.contains(first - 1)) {
                int last = first;
                while (set.contains(last + 1)) {
                    last++;
                }
                found.add(first == last ? "" + first : first + "-" + last);
            }
        }
        return String.join(",", found);
    }

    int at(int i) {
        return i < 0 || i >= printed.length() ? NONE : printed.charAt(i);
    }

    String printed() {
        return printed;
    }
}
