/** Each promise of the document by itself: ordinary inputs, the edges that are named, wrong inputs. */
public final class PromisesTest {
    private static final int NONE = DemandTerms.NONE;
    private static final int[] WRONG = {-1, Integer.MIN_VALUE, Integer.MAX_VALUE, 1000};
    private static final Check CHECK = new Check();

    public static void main(String[] args) {
        p01NewObject();
        p02Versions();
        p03Term();
        p03TermLimit();
        p04Both();
        p05Relate();
        p06About();
        p07Set();
        p08Needs();
        p09Derive();
        p09DeriveRuns();
        p09DeriveEmptySets();
        p09DeriveLimit();
        p10Bar();
        p11Learn();
        p11LearnManyNames();
        p12Count();
        p13Terms();
        p14Part();
        p15PartSet();
        p16Choose();
        p17Forget();
        p18State();
        p19Forced();
        p20Spread();
        p20SpreadRounds();
        p20SpreadManyRounds();
        p20SpreadStops();
        p21Chosen();
        p22ChosenSet();
        p23Print();
        p23PrintLongest();
        p24At();
        CHECK.finish();
    }

    private static void due(String call, long got, long want) {
        CHECK.due(call, got, want);
    }

    private static void due(String call, boolean got, boolean want) {
        CHECK.due(call, got, want);
    }

    private static DemandTerms with(int... versions) {
        return Check.with(versions);
    }

    private static void duePrint(String what, DemandTerms x, int k, String want) {
        CHECK.duePrint(what, x, k, want);
    }

    private static void p01NewObject() {
        due("1: NONE", DemandTerms.NONE, -1);
        DemandTerms x = new DemandTerms();
        due("1: count", x.count(), 0);
        due("1: term", x.term(0, 1, true), NONE);
        due("1: about", x.about(0, 0), NONE);
        due("1: needs", x.needs(0, 0, 1, 1, 0), false);
        due("1: derive", x.derive(0, 0), NONE);
        due("1: bar", x.bar(0, 1, false), NONE);
        due("1: chosen", x.chosen(0, 0), NONE);
        due("1: spread", x.spread(), NONE);
        due("1: at", x.at(0), NONE);
        x.forget();
        due("1: first name", x.versions(1), 0);
        due("1: another object has none", new DemandTerms().term(0, 1, true), NONE);
    }

    private static void p02Versions() {
        DemandTerms x = new DemandTerms();
        for (int n : new int[] {-1, 49, Integer.MIN_VALUE, Integer.MAX_VALUE}) {
            due("2: versions(" + n + ")", x.versions(n), NONE);
        }
        for (int n = 0; n < 16; n++) {
            due("2: versions", x.versions(n == 15 ? 48 : n), n);
            due("2: versions that are there", x.set(x.term(n, -1L, true)), n == 15 ? (1L << 48) - 1 : (1L << n) - 1);
        }
        due("2: a 17th", x.versions(3), NONE);
        due("2: no term of a 17th", x.term(16, 1, true), NONE);
        due("2: a new name's choice is FULL", x.chosen(15, 1), 0);
        due("2: a new name's choice is FULL", x.chosenSet(15), 0);
    }

    private static void p03Term() {
        DemandTerms x = with(3, 0);
        due("3: term", x.term(0, 5, true), 0);
        due("3: term", x.term(1, 5, false), 1);
        due("3: the same again is new", x.term(0, 5, true), 2);
        for (int name : new int[] {2, -1, 16, Integer.MIN_VALUE, Integer.MAX_VALUE}) {
            due("3: term of name " + name, x.term(name, 1, true), NONE);
        }
        due("3: a refused one takes no number", x.term(0, 0, false), 3);
    }

    // 600 TERMS take more than the 512 calls that are promised: the limit still has to hold without a throw.
    private static void p03TermLimit() {
        DemandTerms x = with(3);
        for (int term = 0; term < 600; term++) {
            due("3: term", term % 2 == 0 ? x.term(0, 1, true) : x.both(0, 0, false), term);
        }
        due("3: there are 600", x.term(0, 1, true), NONE);
        due("4: there are 600", x.both(0, 1, true), NONE);
    }

    private static void p04Both() {
        DemandTerms x = with(4, 4);
        int ab = x.term(0, 3, true);
        int bc = x.term(0, 6, true);
        int notAb = x.term(0, 3, false);
        int notBc = x.term(0, 6, false);
        int other = x.term(1, 3, true);
        dueBoth(x, ab, bc, false, 1, 2);
        dueBoth(x, ab, bc, true, 1, 7);
        dueBoth(x, ab, notBc, false, 1, 1);
        dueBoth(x, notBc, ab, false, 1, 1);
        dueBoth(x, ab, notBc, true, 0, 4);
        dueBoth(x, notBc, ab, true, 0, 4);
        dueBoth(x, notAb, notBc, false, 0, 7);
        dueBoth(x, notAb, notBc, true, 0, 2);
        dueBoth(x, ab, notAb, false, 1, 0);
        dueBoth(x, ab, notAb, true, 0, 0);
        dueBoth(x, ab, ab, false, 1, 3);
        due("4: different names", x.both(ab, other, false), NONE);
        due("4: different names", x.both(other, ab, true), NONE);
        for (int wrong : WRONG) {
            due("4: none such", x.both(wrong, ab, false), NONE);
            due("4: none such", x.both(ab, wrong, true), NONE);
            due("4: none such", x.both(wrong, wrong, true), NONE);
        }
        due("4: refused ones take no number", x.both(ab, bc, true), 16);
    }

    private static void dueBoth(DemandTerms x, int a, int b, boolean either, int wanted, long set) {
        String call = "4: both(" + a + ", " + b + ", " + either + ")";
        int term = x.both(a, b, either);
        due(call + " is there", term >= 0, true);
        due(call + " wanted", x.about(term, 1), wanted);
        due(call + " set", x.set(term), set);
        due(call + " name", x.about(term, 0), x.about(a, 0));
    }

    private static void p05Relate() {
        DemandTerms x = with(3, 3, 0);
        int one = x.term(0, 1, true);
        int two = x.term(0, 3, true);
        int notOne = x.term(0, 1, false);
        int notTwo = x.term(0, 3, false);
        int all = x.term(0, 7, true);
        int empty = x.term(0, 0, true);
        int full = x.term(0, 0, false);
        due("5: same", x.relate(one, one), 1);
        due("5: inside", x.relate(one, two), 1);
        due("5: outside", x.relate(two, one), 0);
        due("5: apart", x.relate(one, notTwo), -1);
        due("5: NOT inside NOT", x.relate(notTwo, notOne), 1);
        due("5: NOT outside NOT", x.relate(notOne, notTwo), 0);
        due("5: contrary", x.relate(notOne, one), -1);
        due("5: over", x.relate(two, notOne), 0);
        due("5: all versions aren't all worlds", x.relate(full, all), 0);
        due("5: all versions are in FULL", x.relate(all, full), 1);
        due("5: NOT all is none", x.relate(x.term(0, 7, false), all), -1);
        due("5: EMPTY first", x.relate(empty, full), -1);
        due("5: EMPTY first", x.relate(empty, empty), -1);
        due("5: EMPTY second", x.relate(full, empty), -1);
        int other = x.term(1, 1, true);
        int otherFull = x.term(1, 0, false);
        int otherEmpty = x.term(1, 0, true);
        due("5: different names", x.relate(one, other), 0);
        due("5: different names, second FULL", x.relate(one, otherFull), 0);
        due("5: different names, second EMPTY", x.relate(one, otherEmpty), 0);
        due("5: different names, first FULL", x.relate(full, otherFull), 0);
        due("5: different names, first EMPTY", x.relate(empty, otherFull), -1);
        due("5: different names, both EMPTY", x.relate(empty, otherEmpty), -1);
        int without = x.term(2, 7, false);
        due("5: without versions", x.relate(without, without), 1);
        for (int wrong : WRONG) {
            due("5: none such", x.relate(wrong, one), -2);
            due("5: none such", x.relate(one, wrong), -2);
            due("5: none such, EMPTY first", x.relate(empty, wrong), -2);
        }
    }

    private static void p06About() {
        DemandTerms x = with(2, 5);
        int wanted = x.term(1, 0b10110, true);
        int not = x.term(0, 0b111, false);
        due("6: name", x.about(wanted, 0), 1);
        due("6: wanted", x.about(wanted, 1), 1);
        due("6: versions", x.about(wanted, 2), 3);
        due("6: name", x.about(not, 0), 0);
        due("6: not", x.about(not, 1), 0);
        due("6: versions that are there", x.about(not, 2), 2);
        for (int wrong : WRONG) {
            due("6: none such", x.about(wrong, 0), NONE);
            due("6: another what", x.about(wanted, wrong), NONE);
        }
        due("6: another what", x.about(wanted, 3), NONE);
        due("6: none such", x.about(2, 0), NONE);
    }

    private static void p07Set() {
        DemandTerms x = with(5, 48, 0);
        due("7: WANTED", x.set(x.term(0, 0b10110, true)), 0b10110);
        due("7: NOT", x.set(x.term(0, 0b10110, false)), 0b10110);
        due("7: versions that are there", x.set(x.term(0, -1L, true)), 0b11111);
        due("7: versions that are there", x.set(x.term(0, -1L, false)), 0b11111);
        due("7: versions that are there", x.set(x.term(0, 1L << 48 | 1, false)), 1);
        due("7: all 48", x.set(x.term(1, -1L, true)), (1L << 48) - 1);
        due("7: all 48", x.set(x.term(1, Long.MAX_VALUE, false)), (1L << 48) - 1);
        due("7: the last one", x.set(x.term(1, 1L << 47, false)), 1L << 47);
        due("7: bits behind", x.set(x.term(1, Long.MIN_VALUE | 1L << 48, true)), 0);
        due("7: no versions", x.set(x.term(2, -1L, true)), 0);
        due("7: no versions", x.set(x.term(2, -1L, false)), 0);
        for (int wrong : WRONG) {
            due("7: none such", x.set(wrong), 0);
        }
    }

    private static void p08Needs() {
        DemandTerms x = with(3, 2, 0);
        due("8: row", x.needs(0, 0, 1, 1, 0), true);
        due("8: the same again", x.needs(0, 0, 1, 1, 0), true);
        due("8: last version, last class", x.needs(0, 2, 1, 1, 7), true);
        due("8: other without versions", x.needs(0, 2, 2, 1, 7), true);
        due("8: no such version", x.needs(0, 3, 1, 1, 0), false);
        due("8: no such version", x.needs(2, 0, 1, 1, 0), false);
        due("8: no such version, 48", x.needs(0, 48, 1, 1, 0), false);
        due("8: no such version, 64", x.needs(0, 64, 1, 1, 0), false);
        due("8: no such class", x.needs(0, 0, 1, 1, 8), false);
        due("8: the same name", x.needs(0, 0, 0, 1, 0), false);
        due("8: no such name", x.needs(3, 0, 1, 1, 0), false);
        due("8: no such other", x.needs(0, 0, 3, 1, 0), false);
        for (int wrong : WRONG) {
            due("8: no such name", x.needs(wrong, 0, 1, 1, 0), false);
            due("8: no such version", x.needs(0, wrong, 1, 1, 0), false);
            due("8: no such other", x.needs(0, 0, wrong, 1, 0), false);
            due("8: no such class", x.needs(0, 0, 1, 1, wrong), false);
        }
        due("8: refused rows aren't there", x.derive(0, 0), 1);
        DemandTerms y = with(3, 2);
        for (int row = 0; row < 400; row++) {
            due("8: row " + row, y.needs(0, row % 2, 1, row % 4, row % 8), true);
        }
        due("8: row 400", y.needs(0, 2, 1, 1, 0), false);
        due("8: row 400 isn't there", y.derive(0, 2), 0);
    }

    private static void p09Derive() {
        DemandTerms x = with(6, 3, 2);
        due("9: no rows", x.derive(0, 0), 0);
        x.needs(1, 1, 0, 4, 2);
        x.needs(1, 1, 2, 1, 0);
        x.needs(1, 1, 0, 4, 2);
        x.needs(1, 1, 0, 4, 3);
        due("9: same rows once", x.derive(1, 1), 3);
        duePrint("9: sorted by names", x, 0, "!a 2; b 1");
        duePrint("9: as they came", x, 1, "b 1; !c 0");
        duePrint("9: another class", x, 2, "!a 2; b 1");
        due("9: nothing new", x.derive(1, 1), 0);
        x.needs(1, 1, 2, 2, 0);
        due("9: a row that came later", x.derive(1, 1), 1);
        duePrint("9: a row that came later", x, 3, "b 1; !c 1");
        for (int wrong : WRONG) {
            due("9: no such name", x.derive(wrong, 0), NONE);
            due("9: no such version", x.derive(0, wrong), NONE);
        }
        due("9: no such name", x.derive(3, 0), NONE);
        due("9: no such version", x.derive(0, 6), NONE);
        due("9: no such version", x.derive(2, 48), NONE);
        due("9: count", x.count(), 4);
    }

    private static void p09DeriveRuns() {
        DemandTerms x = with(48, 3, 3);
        for (int version : new int[] {0, 1, 3, 4, 5, 7, 46, 47}) {
            x.needs(0, version, 1, 1, 0);
        }
        x.needs(0, 6, 1, 2, 0);
        x.needs(0, 2, 1, 1, 1);
        x.needs(0, 2, 2, 1, 0);
        due("9: run to both sides", x.derive(0, 4), 1);
        duePrint("9: run to both sides", x, 0, "a 3-5; !b 0");
        due("9: derived with its neighbour", x.derive(0, 3), 0);
        due("9: first run", x.derive(0, 1), 1);
        duePrint("9: first run", x, 1, "a 0-1; !b 0");
        due("9: last run", x.derive(0, 47), 1);
        duePrint("9: last run", x, 2, "a 46-47; !b 0");
        x.needs(0, 6, 1, 1, 0);
        due("9: derived before the row came", x.derive(0, 5), 0);
        due("9: by now", x.derive(0, 6), 2);
        duePrint("9: another set", x, 3, "a 6; !b 1");
        duePrint("9: by now, with those derived before", x, 4, "a 3-7; !b 0");
        due("9: reached from 6", x.derive(0, 7), 0);
        due("9: other class, other name", x.derive(0, 2), 2);
        duePrint("9: other class", x, 5, "a 2; !b 0");
        duePrint("9: other name", x, 6, "a 2; !c 0");
    }

    private static void p09DeriveEmptySets() {
        DemandTerms x = with(3, 0, 2);
        x.needs(0, 0, 1, 5, 0);
        x.needs(0, 1, 1, 9, 0);
        x.needs(0, 1, 2, 0, 0);
        x.needs(0, 1, 2, 4, 0);
        due("9: sets of versions that are there are the same", x.derive(0, 0), 1);
        duePrint("9: FULL is left out", x, 0, "a 0-1");
        due("9: another name, FULL too", x.derive(0, 1), 1);
        duePrint("9: FULL is left out", x, 1, "a 1");
        due("9: nothing new", x.derive(0, 1), 0);
        DemandTerms y = with(2, 2);
        y.needs(0, 0, 1, 1, 0);
        y.bar(0, 1, false);
        y.learn(0, 0, 0);
        due("9: barred and learned ones aren't derived", y.derive(0, 0), 1);
    }

    private static void p09DeriveLimit() {
        DemandTerms x = with(2, 48);
        for (int row = 0; row < 4; row++) {
            x.needs(0, 0, 1, row < 3 ? row : 2, 0);
        }
        x.needs(0, 1, 1, 77, 0);
        for (int k = 0; k < 298; k++) {
            x.bar(1, k, false);
        }
        due("9: more than 300", x.derive(0, 0), NONE);
        due("9: then none is new", x.count(), 298);
        due("9: then none is derived", x.derive(0, 0), NONE);
        due("9: up to 299", x.derive(0, 1), 1);
        due("9: more than 300", x.derive(0, 0), NONE);
        due("9: the next one has no TERMS of those", x.bar(0, 0, true), 299);
        due("9: the next one has no TERMS of those", x.terms(299), 0);
        due("9: none to be derived at 300", x.derive(0, 1), 0);
        due("9: at 300", x.derive(0, 0), NONE);
        DemandTerms y = with(1, 48);
        for (int row = 0; row < 301; row++) {
            y.needs(0, 0, 1, row, 0);
        }
        due("9: 301 at once", y.derive(0, 0), NONE);
        due("9: 301 at once", y.count(), 0);
        DemandTerms z = with(1, 48);
        for (int row = 0; row < 301; row++) {
            z.needs(0, 0, 1, Math.min(row, 299), 0);
        }
        due("9: 300 at once", z.derive(0, 0), 300);
        due("9: 300 at once", z.partSet(299, 1), 299);
    }

    private static void p10Bar() {
        DemandTerms x = with(3, 0);
        due("10: bar", x.bar(0, 5, false), 0);
        duePrint("10: WANTED", x, 0, "a 0,2");
        due("10: demanded", x.bar(0, 13, true), 1);
        duePrint("10: NOT", x, 1, "!a 0,2");
        due("10: EMPTY stays", x.bar(0, 8, false), 2);
        duePrint("10: EMPTY stays", x, 2, "a ");
        due("10: FULL falls away", x.bar(0, 8, true), 3);
        due("10: FULL falls away", x.terms(3), 0);
        due("10: no versions", x.bar(1, 1, true), 4);
        due("10: no versions", x.terms(4), 0);
        for (int wrong : WRONG) {
            due("10: none such", x.bar(wrong, 1, false), NONE);
        }
        due("10: none such", x.bar(2, 1, true), NONE);
        for (int k = 5; k < 300; k++) {
            due("10: bar", x.bar(0, 1, false), k);
        }
        due("10: there are 300", x.bar(0, 1, false), NONE);
        due("10: there are 300", x.bar(0, 0, true), NONE);
        due("10: count", x.count(), 300);
    }

    private static void p11Learn() {
        DemandTerms x = with(4, 4, 4);
        x.needs(0, 1, 1, 3, 0);
        x.needs(1, 1, 2, 2, 0);
        x.needs(1, 2, 0, 4, 0);
        x.derive(0, 1);
        x.derive(1, 1);
        x.derive(1, 2);
        due("11: learn", x.learn(0, 1, 1), 3);
        duePrint("11: EITHER of b", x, 3, "a 1; !b 0; !c 1");
        due("11: learn", x.learn(1, 0, 1), 4);
        duePrint("11: the other way round", x, 4, "a 1; !b 0; !c 1");
        due("11: learn", x.learn(0, 2, 1), 5);
        duePrint("11: BOTH of a", x, 5, "a 1; !b 0-1");
        due("11: learn", x.learn(0, 2, 0), 6);
        duePrint("11: BOTH of b, EITHER of a", x, 6, "!a 2; b 2");
        x.bar(1, 3, false);
        due("11: learn", x.learn(0, 7, 1), 8);
        duePrint("11: FULL falls away", x, 8, "a 1");
        x.bar(0, 2, true);
        due("11: learn", x.learn(8, 9, 0), 10);
        due("11: nothing may be", x.terms(10), 0);
        due("11: one with itself", x.learn(0, 0, 1), 11);
        duePrint("11: one with itself", x, 11, "a 1; !b 0-1");
        due("11: first has no TERM", x.learn(0, 1, 0), NONE);
        due("11: second has no TERM", x.learn(0, 1, 2), NONE);
        due("11: none without TERMS", x.learn(10, 10, 0), NONE);
        for (int wrong : WRONG) {
            due("11: none such", x.learn(wrong, 0, 1), NONE);
            due("11: none such", x.learn(0, wrong, 1), NONE);
            due("11: no such name", x.learn(0, 0, wrong), NONE);
        }
        due("11: no such name", x.learn(0, 0, 3), NONE);
        due("11: no such name", x.learn(0, 0, 32), NONE);
        for (int k = 12; k < 300; k++) {
            due("11: learn", x.learn(0, 0, 0), k);
        }
        due("11: there are 300", x.learn(0, 0, 0), NONE);
    }

    private static void p11LearnManyNames() {
        DemandTerms x = with(2, 2, 2, 2, 2, 2, 2, 2, 2, 2, 2, 2, 2, 2, 2, 2);
        int last = x.bar(0, 1, false);
        for (int name = 1; name < 16; name++) {
            x.needs(name, 0, name - 1, 2, 0);
            x.derive(name, 0);
            last = x.learn(last, x.count() - 1, name - 1);
        }
        StringBuilder want = new StringBuilder();
        for (int name = 0; name < 15; name++) {
            want.append('!').append((char) ('a' + name)).append(" 1; ");
        }
        due("11: TERMS of all names", x.terms(last), 16);
        duePrint("11: TERMS of all names", x, last, want + "p 0");
    }

    private static void p12Count() {
        DemandTerms x = with(3, 3);
        due("12: none", x.count(), 0);
        x.bar(0, 1, false);
        due("12: barred", x.count(), 1);
        x.needs(0, 0, 1, 1, 0);
        x.needs(0, 0, 1, 2, 0);
        due("12: rows aren't", x.count(), 1);
        x.derive(0, 0);
        due("12: derived", x.count(), 3);
        x.learn(0, 1, 0);
        due("12: learned", x.count(), 4);
        x.learn(0, 9, 0);
        x.bar(9, 1, false);
        x.term(0, 1, true);
        due("12: refused", x.count(), 4);
    }

    private static void p13Terms() {
        DemandTerms x = with(3, 3, 3);
        x.needs(0, 0, 1, 1, 0);
        x.derive(0, 0);
        x.bar(0, 0, true);
        x.bar(1, 2, false);
        due("13: two", x.terms(0), 2);
        due("13: without", x.terms(1), 0);
        due("13: one", x.terms(2), 1);
        for (int wrong : WRONG) {
            due("13: none such", x.terms(wrong), NONE);
        }
        due("13: none such", x.terms(3), NONE);
    }

    private static void p14Part() {
        DemandTerms x = with(3, 3, 5);
        x.needs(2, 4, 0, 3, 0);
        x.derive(2, 4);
        due("14: name", x.part(0, 0, 0), 0);
        due("14: NOT", x.part(0, 0, 1), 0);
        due("14: versions", x.part(0, 0, 2), 2);
        due("14: name", x.part(0, 1, 0), 2);
        due("14: WANTED", x.part(0, 1, 1), 1);
        due("14: versions", x.part(0, 1, 2), 1);
        due("14: another what", x.part(0, 1, 3), NONE);
        due("14: no such TERM", x.part(0, 2, 0), NONE);
        x.bar(0, 0, true);
        due("14: without TERMS", x.part(1, 0, 0), NONE);
        for (int wrong : WRONG) {
            due("14: none such", x.part(wrong, 0, 0), NONE);
            due("14: no such TERM", x.part(0, wrong, 0), NONE);
            due("14: another what", x.part(0, 0, wrong), NONE);
        }
    }

    private static void p15PartSet() {
        DemandTerms x = with(3, 48);
        x.needs(0, 2, 1, -1L, 0);
        x.needs(0, 1, 1, -1L, 0);
        x.derive(0, 2);
        due("15: WANTED", x.partSet(0, 0), 6);
        due("15: NOT", x.partSet(0, 1), (1L << 48) - 1);
        due("15: no such TERM", x.partSet(0, 2), 0);
        x.bar(0, -1L, true);
        due("15: barred", x.partSet(1, 0), 7);
        for (int wrong : WRONG) {
            due("15: none such", x.partSet(wrong, 0), 0);
            due("15: no such TERM", x.partSet(0, wrong), 0);
        }
        due("15: none such", x.partSet(2, 0), 0);
    }

    private static void p16Choose() {
        DemandTerms x = with(4, 4);
        int not = x.term(0, 1, false);
        int some = x.term(0, 7, true);
        int more = x.term(0, 14, true);
        int last = x.term(0, 8, true);
        due("16: NOT", x.choose(not), true);
        due("16: NOT", x.chosen(0, 1), 0);
        due("16: NOT", x.chosenSet(0), 1);
        due("16: NOT another", x.choose(x.term(0, 2, false)), true);
        due("16: both NOT", x.chosenSet(0), 3);
        x.forget();
        x.choose(not);
        x.choose(some);
        due("16: WANTED", x.chosen(0, 1), 1);
        due("16: WANTED", x.chosenSet(0), 6);
        x.choose(more);
        due("16: as before", x.chosenSet(0), 6);
        due("16: EMPTY", x.choose(last), true);
        due("16: EMPTY", x.chosenSet(0), 0);
        due("16: EMPTY", x.chosen(0, 1), 1);
        due("16: the other name", x.chosen(1, 1), 0);
        for (int wrong : WRONG) {
            due("16: none such", x.choose(wrong), false);
        }
        due("16: the TERM stays", x.set(some), 7);
        due("16: no new TERM", x.term(0, 1, true), 5);
    }

    private static void p17Forget() {
        DemandTerms x = with(4, 4, 0);
        x.choose(x.term(0, 3, true));
        x.choose(x.term(1, 3, false));
        x.choose(x.term(2, 0, true));
        x.bar(0, 3, false);
        x.forget();
        for (int name = 0; name < 3; name++) {
            due("17: FULL", x.chosen(name, 1), 0);
            due("17: FULL", x.chosenSet(name), 0);
        }
        due("17: TERMS stay", x.set(1), 3);
        due("17: incompatibilities stay", x.count(), 1);
        due("17: open again", x.state(0), 2);
    }

    private static void p18State() {
        DemandTerms x = with(4, 4);
        x.needs(0, 1, 1, 3, 0);
        x.derive(0, 1);
        x.bar(0, 0, true);
        x.bar(0, 0, false);
        due("18: two OPEN", x.state(0), 0);
        due("18: without TERMS", x.state(1), 1);
        due("18: EMPTY TERM", x.state(2), -1);
        x.choose(x.term(0, 6, true));
        due("18: still OPEN", x.state(0), 0);
        x.choose(x.term(0, 2, true));
        due("18: one OPEN, the other one KEPT", x.state(0), 2);
        x.choose(x.term(1, 1, false));
        due("18: NOT of less is OPEN", x.state(0), 2);
        x.choose(x.term(1, 2, false));
        due("18: KEPT", x.state(0), 1);
        x.choose(x.term(1, 0, true));
        due("18: EMPTY choice is BROKEN", x.state(0), -1);
        x.forget();
        x.choose(x.term(1, 3, true));
        due("18: BROKEN, the other one OPEN", x.state(0), -1);
        x.forget();
        x.choose(x.term(0, 2, false));
        due("18: BROKEN, the other one OPEN", x.state(0), -1);
        x.forget();
        x.choose(x.term(1, 12, true));
        due("18: KEPT by others WANTED", x.state(0), 2);
        x.choose(x.term(0, 0, true));
        due("18: EMPTY choice, EMPTY TERM", x.state(2), -1);
        due("18: EMPTY choice, without TERMS", x.state(1), 1);
        for (int wrong : WRONG) {
            due("18: none such", x.state(wrong), -2);
        }
        due("18: none such", x.state(3), -2);
    }

    private static void p19Forced() {
        DemandTerms x = with(4, 4, 4);
        x.needs(0, 1, 2, 3, 0);
        x.derive(0, 1);
        x.bar(0, 0, true);
        due("19: state 0", x.forced(0), NONE);
        due("19: state 1", x.forced(1), NONE);
        x.choose(x.term(0, 2, true));
        due("19: the second TERM", x.forced(0), 1);
        due("19: forces nothing by itself", x.chosenSet(2), 0);
        x.forget();
        x.choose(x.term(2, 12, true));
        due("19: the first TERM", x.forced(0), 0);
        x.choose(x.term(0, 2, false));
        due("19: state -1", x.forced(0), NONE);
        for (int wrong : WRONG) {
            due("19: none such", x.forced(wrong), NONE);
        }
        due("19: none such", x.forced(2), NONE);
    }

    private static void p20Spread() {
        DemandTerms x = with(4, 4);
        due("20: none there", x.spread(), NONE);
        x.bar(0, 3, false);
        due("20: a WANTED TERM", x.spread(), NONE);
        due("20: a WANTED TERM forces NOT", x.chosen(0, 1), 0);
        due("20: a WANTED TERM forces NOT", x.chosenSet(0), 3);
        x.bar(0, 6, true);
        due("20: a NOT TERM", x.spread(), NONE);
        due("20: a NOT TERM forces WANTED", x.chosen(0, 1), 1);
        due("20: a NOT TERM forces WANTED", x.chosenSet(0), 4);
        due("20: nothing more", x.spread(), NONE);
        x.bar(0, 4, false);
        due("20: KEPT", x.spread(), 2);
        due("20: the choice stays", x.chosenSet(0), 4);
        x.forget();
        due("20: again from FULL", x.spread(), 2);
        x.choose(x.term(0, 0, true));
        due("20: an EMPTY choice keeps none", x.spread(), NONE);
        x.bar(1, 0, true);
        due("20: without TERMS", x.spread(), 3);
    }

    // What forces c stands before what forces b, and that before what forces a.
    private static void p20SpreadRounds() {
        DemandTerms x = with(2, 2, 2);
        x.needs(1, 0, 2, 1, 0);
        x.needs(0, 0, 1, 1, 0);
        x.derive(1, 0);
        x.derive(0, 0);
        x.bar(0, 1, true);
        due("20: rounds", x.spread(), NONE);
        due("20: rounds", x.chosenSet(0), 1);
        due("20: rounds", x.chosenSet(1), 1);
        due("20: rounds", x.chosenSet(2), 1);
        due("20: rounds", x.chosen(2, 1), 1);
    }

    // a i needs b i, and b i needs a i - 1: without b 0 all fall, but one a round, as the last ones come first.
    private static void p20SpreadManyRounds() {
        DemandTerms x = with(48, 48);
        for (int version = 47; version >= 0; version--) {
            x.needs(0, version, 1, 1L << version, version % 8);
            x.derive(0, version);
            if (version > 0) {
                x.needs(1, version, 0, 1L << (version - 1), version % 8);
                x.derive(1, version);
            }
        }
        x.bar(1, 1, false);
        due("20: many rounds", x.count(), 96);
        due("20: many rounds", x.spread(), NONE);
        for (int name = 0; name < 2; name++) {
            due("20: many rounds", x.chosenSet(name), (1L << 48) - 1);
            due("20: many rounds", x.chosen(name, 1), 0);
        }
    }

    private static void p20SpreadStops() {
        DemandTerms x = with(2, 2, 2);
        x.bar(0, 1, false);
        x.bar(1, 0, true);
        x.bar(2, 1, false);
        due("20: KEPT behind one that forces", x.spread(), 1);
        due("20: gone through before", x.chosenSet(0), 1);
        due("20: not gone through any more", x.chosenSet(2), 0);
        // 0 is open when gone through; 1 and 2 make it KEPT, but 3 is the next that is gone through.
        DemandTerms y = with(2, 2);
        y.needs(0, 0, 1, 1, 0);
        y.derive(0, 0);
        y.bar(0, 1, true);
        y.bar(1, 1, false);
        y.learn(0, 2, 1);
        due("20: the first in number that is", y.spread(), 0);
        due("20: KEPT too", y.state(3), 1);
    }

    private static void p21Chosen() {
        DemandTerms x = with(4, 4);
        due("21: FULL", x.chosen(1, 0), 1);
        due("21: FULL", x.chosen(1, 1), 0);
        due("21: FULL", x.chosen(1, 2), 0);
        x.choose(x.term(1, 7, true));
        due("21: WANTED", x.chosen(1, 0), 1);
        due("21: WANTED", x.chosen(1, 1), 1);
        due("21: WANTED", x.chosen(1, 2), 3);
        due("21: another what", x.chosen(1, 3), NONE);
        for (int wrong : WRONG) {
            due("21: no such name", x.chosen(wrong, 0), NONE);
            due("21: another what", x.chosen(1, wrong), NONE);
        }
        due("21: no such name", x.chosen(2, 0), NONE);
        due("21: no such name", x.chosen(16, 1), NONE);
    }

    private static void p22ChosenSet() {
        DemandTerms x = with(4, 48);
        due("22: FULL", x.chosenSet(1), 0);
        x.choose(x.term(1, -1L, false));
        due("22: NOT all", x.chosenSet(1), (1L << 48) - 1);
        x.choose(x.term(0, 5, true));
        due("22: WANTED", x.chosenSet(0), 5);
        for (int wrong : WRONG) {
            due("22: no such name", x.chosenSet(wrong), 0);
        }
        due("22: no such name", x.chosenSet(2), 0);
        due("22: no such name", x.chosenSet(16), 0);
    }

    private static void p23Print() {
        DemandTerms x = with(48, 48, 0);
        x.bar(0, 0b10111011L | 3L << 9 | 1L << 12 | 1L << 47, true);
        duePrint("23: runs", x, 0, "!a 0-1,3-5,7,9-10,12,47");
        x.bar(1, -1L, false);
        duePrint("23: all", x, 1, "b 0-47");
        x.bar(1, 0, false);
        duePrint("23: 0 runs", x, 2, "b ");
        x.bar(0, 0, true);
        duePrint("23: no TERMS", x, 3, "");
        x.needs(0, 20, 1, 1L << 46 | 1L << 47, 0);
        x.derive(0, 20);
        duePrint("23: two TERMS", x, 4, "a 20; !b 46-47");
        for (int wrong : WRONG) {
            due("23: none such", x.print(wrong), NONE);
        }
        due("23: none such", x.print(5), NONE);
        CHECK.due("23: what was printed before stays", Check.printed(x), "a 20; !b 46-47");
        x.choose(x.term(0, 1, true));
        x.bar(0, 1, false);
        CHECK.due("23: other calls print nothing", Check.printed(x), "a 20; !b 46-47");
    }

    // Longer than the calls that are promised to one object: each object's part of the text is read from it alone.
    private static void p23PrintLongest() {
        StringBuilder runs = new StringBuilder();
        for (int version = 0; version < 48; version += 3) {
            runs.append(version == 0 ? "" : ",").append(version).append('-').append(version + 1);
        }
        StringBuilder want = new StringBuilder();
        for (int name = 0; name < 16; name++) {
            want.append(name == 0 ? "!" : "; !").append((char) ('a' + name)).append(' ').append(runs);
        }
        for (int from = 0; from < want.length(); from += 400) {
            DemandTerms x = withLongest();
            due("23: the longest", x.print(x.count() - 1), want.length());
            for (int i = from; i < from + 400; i++) {
                due("23: the longest, at(" + i + ")", x.at(i), i < want.length() ? want.charAt(i) : NONE);
            }
        }
    }

    // Sixteen NOT TERMS of 16 runs each, with no version 2: so EITHER of version 2 and NOT the SET is NOT the SET.
    private static DemandTerms withLongest() {
        DemandTerms x = with(48);
        long set = 0;
        for (int version = 0; version < 48; version += 3) {
            set |= 3L << version;
        }
        int last = x.bar(0, 4, false);
        for (int name = 1; name < 16; name++) {
            x.versions(48);
            x.needs(name, 2, name - 1, set, 0);
            x.derive(name, 2);
            last = x.learn(last, x.count() - 1, name - 1);
        }
        x.learn(last, x.bar(15, set, true), 15);
        return x;
    }

    private static void p24At() {
        DemandTerms x = with(4);
        due("24: nothing printed", x.at(0), NONE);
        x.bar(0, 14, true);
        due("24: printing is asked for", x.at(0), NONE);
        due("24: print", x.print(0), 6);
        due("24: at", x.at(0), '!');
        due("24: at", x.at(1), 'a');
        due("24: at", x.at(2), ' ');
        due("24: at", x.at(3), '1');
        due("24: at", x.at(4), '-');
        due("24: at", x.at(5), '3');
        due("24: behind the end", x.at(6), NONE);
        for (int wrong : WRONG) {
            due("24: none such", x.at(wrong), NONE);
        }
        x.bar(0, 1, false);
        x.print(1);
        due("24: a shorter one", x.at(2), '0');
        due("24: behind the end of a shorter one", x.at(3), NONE);
    }
}
