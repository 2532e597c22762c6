import java.util.Random;
import java.util.function.BooleanSupplier;
import java.util.function.LongSupplier;

/** Mixed runs of 512 calls, each answer against the model's; the seeds are fixed, so each run is the same. */
public final class ModelTest {
    private static final int RUNS = 5000;
    // What an object answers after its 512th call is free, so a run asks no more.
    private static final int CALLS = 512;
    private static final int SHORT_TEXT = 40;
    private static final int[] WRONG = {-1, -2, 16, 48, 64, 300, 600, Integer.MIN_VALUE, Integer.MAX_VALUE};

    private final Check check = new Check();
    private final int[] answered = new int[5];

    public static void main(String[] args) {
        ModelTest test = new ModelTest();
        for (int seed = 0; seed < RUNS && !test.check.anyWrong(); seed++) {
            new Run(test, seed).go();
        }
        test.dueVaried();
        test.check.finish();
    }

    // Runs in which hardly anything is ever KEPT, BROKEN or forced would show nothing.
    private void dueVaried() {
        for (int state = -1; state <= 2; state++) {
            check.due("runs meet state " + state, answered[state + 1] > 1000, true);
        }
        check.due("runs meet a spread that ends KEPT", answered[4] > 1000, true);
    }

    /** One run: the object, the model, and how its arguments are drawn. */
    private static final class Run {
        private final ModelTest test;
        private final Check check;
        private final Random random;
        private final int seed;
        private final DemandTerms x = new DemandTerms();
        private final Model model = new Model();
        private final int mostVersions;
        private final int mostNames;
        private final int sets;
        private final int looks;
        private int calls = 0;
        private int names = 0;
        private int terms = 0;

        Run(ModelTest test, int seed) {
            this.test = test;
            this.check = test.check;
            this.seed = seed;
            random = new Random(seed);
            mostVersions = new int[] {1, 3, 5, 48}[random.nextInt(4)];
            mostNames = new int[] {2, 3, 5, 16}[random.nextInt(4)];
            sets = random.nextInt(3);
            looks = new int[] {1, 3, 10}[random.nextInt(3)];
        }

        void go() {
            while (calls < CALLS && !check.anyWrong()) {
                if (names < mostNames && random.nextInt(4) == 0 || names < 2) {
                    versions();
                } else {
                    anyCall(random.nextInt(30));
                }
            }
        }

        // Runs that look at less of what a call did have more calls left to do something.
        private boolean isLookedAt() {
            return random.nextInt(looks) == 0;
        }

        // Counted before it is asked: behind the last call of the run the object isn't asked any more.
        private boolean mayAsk() {
            calls++;
            return calls <= CALLS;
        }

        private void due(String call, LongSupplier asked, long want) {
            if (mayAsk()) {
                check.due("seed " + seed + ": " + call, asked.getAsLong(), want);
            }
        }

        private void dueTruth(String call, BooleanSupplier asked, boolean want) {
            if (mayAsk()) {
                check.due("seed " + seed + ": " + call, asked.getAsBoolean(), want);
            }
        }

        private void versions() {
            int n = random.nextInt(20) == 0 ? wrong() : random.nextInt(mostVersions + 1);
            int want = model.versions(n);
            due("versions(" + n + ")", () -> x.versions(n), want);
            names = want == DemandTerms.NONE ? names : names + 1;
        }

        private void anyCall(int which) {
            switch (which) {
                case 0, 1, 2 -> term();
                case 3, 4 -> both();
                case 5, 6 -> relate();
                case 7 -> about();
                case 8, 9, 10, 11, 12 -> needs();
                case 13, 14, 15 -> derive();
                case 16 -> bar();
                case 17, 18 -> learn();
                case 19 -> part();
                case 20, 21, 22 -> choose();
                case 23 -> spread();
                case 24 -> chosen();
                case 25 -> print();
                case 26 -> forget();
                default -> state();
            }
        }

        private int wrong() {
            return WRONG[random.nextInt(WRONG.length)];
        }

        // Mostly one that is there, now and then the next one, or one far off.
        private int below(int bound) {
            int chance = random.nextInt(60);
            if (chance == 0) {
                return wrong();
            }
            return bound <= 0 || chance < 4 ? Math.max(bound, 0) : random.nextInt(bound);
        }

        private int name() {
            return below(names);
        }

        private int clash() {
            return below(model.count());
        }

        private long someSet() {
            return switch (sets) {
                case 0 -> random.nextInt(4);
                case 1 -> random.nextLong();
                default -> random.nextLong() & random.nextLong() & random.nextLong();
            };
        }

        private void term() {
            int name = name();
            long set = someSet();
            boolean wanted = random.nextBoolean();
            int want = model.term(name, set, wanted);
            due("term(" + name + ", " + set + ", " + wanted + ")", () -> x.term(name, set, wanted), want);
            dueTerm(want);
        }

        private void both() {
            int a = below(terms);
            int b = below(terms);
            boolean either = random.nextBoolean();
            int want = model.both(a, b, either);
            due("both(" + a + ", " + b + ", " + either + ")", () -> x.both(a, b, either), want);
            dueTerm(want);
        }

        private void dueTerm(int term) {
            terms = Math.max(terms, term + 1);
            if (isLookedAt()) {
                due("set(" + term + ")", () -> x.set(term), model.set(term));
                due("about(" + term + ", 1)", () -> x.about(term, 1), model.about(term, 1));
            }
        }

        private void relate() {
            int a = below(terms);
            int b = below(terms);
            due("relate(" + a + ", " + b + ")", () -> x.relate(a, b), model.relate(a, b));
        }

        private void about() {
            int term = below(terms);
            int what = below(3);
            due("about(" + term + ", " + what + ")", () -> x.about(term, what), model.about(term, what));
        }

        private void needs() {
            int name = name();
            int version = below(mostVersions);
            int other = name();
            long set = someSet();
            int kind = random.nextInt(3) == 0 ? below(8) : 0;
            boolean want = model.needs(name, version, other, set, kind);
            dueTruth("needs(" + name + ", " + version + ", " + other + ", " + set + ", " + kind + ")",
                    () -> x.needs(name, version, other, set, kind), want);
        }

        private void derive() {
            int name = name();
            int version = below(mostVersions);
            due("derive(" + name + ", " + version + ")", () -> x.derive(name, version), model.derive(name, version));
            dueClash(model.count() - 1);
        }

        private void bar() {
            int name = name();
            long set = someSet();
            boolean demanded = random.nextBoolean();
            due("bar(" + name + ", " + set + ", " + demanded + ")", () -> x.bar(name, set, demanded), model.bar(name, set, demanded));
            dueClash(model.count() - 1);
        }

        private void learn() {
            int a = clash();
            int b = clash();
            int name = random.nextBoolean() ? name() : model.part(a, 0, 0);
            due("learn(" + a + ", " + b + ", " + name + ")", () -> x.learn(a, b, name), model.learn(a, b, name));
            dueClash(model.count() - 1);
        }

        private void part() {
            int k = clash();
            int i = below(3);
            int what = below(3);
            due("part(" + k + ", " + i + ", " + what + ")", () -> x.part(k, i, what), model.part(k, i, what));
            due("partSet(" + k + ", " + i + ")", () -> x.partSet(k, i), model.partSet(k, i));
            due("terms(" + k + ")", () -> x.terms(k), model.terms(k));
        }

        private void choose() {
            int term = below(terms);
            dueTruth("choose(" + term + ")", () -> x.choose(term), model.choose(term));
        }

        private void forget() {
            if (mayAsk()) {
                x.forget();
            }
            model.forget();
        }

        private void state() {
            int k = clash();
            int want = model.state(k);
            due("state(" + k + ")", () -> x.state(k), want);
            due("forced(" + k + ")", () -> x.forced(k), model.forced(k));
            if (want >= -1) {
                test.answered[want + 1]++;
            }
        }

        private void spread() {
            int want = model.spread();
            due("spread()", () -> x.spread(), want);
            test.answered[4] += want == DemandTerms.NONE ? 0 : 1;
            dueChoice();
            if (random.nextBoolean()) {
                forget();
            }
        }

        private void chosen() {
            int name = name();
            int what = below(3);
            due("chosen(" + name + ", " + what + ")", () -> x.chosen(name, what), model.chosen(name, what));
            due("chosenSet(" + name + ")", () -> x.chosenSet(name), model.chosenSet(name));
        }

        private void print() {
            int k = clash();
            due("print(" + k + ")", () -> x.print(k), model.print(k));
            int length = model.printed().length();
            for (int sign = 0; sign <= Math.min(length, SHORT_TEXT); sign++) {
                int i = length <= SHORT_TEXT ? sign : below(length);
                due("at(" + i + ")", () -> x.at(i), model.at(i));
            }
        }

        private void dueChoice() {
            if (!isLookedAt()) {
                return;
            }
            for (int name = 0; name < names; name++) {
                dueChosen(name);
            }
        }

        private void dueChosen(int name) {
            due("chosen(" + name + ", 1)", () -> x.chosen(name, 1), model.chosen(name, 1));
            due("chosenSet(" + name + ")", () -> x.chosenSet(name), model.chosenSet(name));
        }

        private void dueClash(int k) {
            if (!isLookedAt()) {
                return;
            }
            due("count()", () -> x.count(), model.count());
            due("terms(" + k + ")", () -> x.terms(k), model.terms(k));
            for (int i = 0; i < model.terms(k); i++) {
                duePart(k, i);
            }
        }

        private void duePart(int k, int i) {
            due("part(" + k + ", " + i + ", 0)", () -> x.part(k, i, 0), model.part(k, i, 0));
            due("part(" + k + ", " + i + ", 1)", () -> x.part(k, i, 1), model.part(k, i, 1));
            due("partSet(" + k + ", " + i + ")", () -> x.partSet(k, i), model.partSet(k, i));
        }
    }
}
