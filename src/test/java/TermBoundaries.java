/** Boundary cases of names, versions, TERMS and how TERMS lie to each other: promises 1 to 7. */
final class TermBoundaries {
    private static final int NONE = DemandTerms.NONE;
    private static final long ALL = (1L << 48) - 1;

    private TermBoundaries() {
    }

    private static void dueTerm(Check check, DemandTerms x, int term, int name, int wanted, long set) {
        check.due("about(" + term + ", 0)", x.about(term, 0), name);
        check.due("about(" + term + ", 1)", x.about(term, 1), wanted);
        check.due("about(" + term + ", 2)", x.about(term, 2), Long.bitCount(set));
        check.due("set(" + term + ")", x.set(term), set);
    }

    private static void dueEmpty(Check check, DemandTerms x, int term) {
        dueTerm(check, x, term, x.about(term, 0), 1, 0);
    }

    private static void dueFull(Check check, DemandTerms x, int term) {
        dueTerm(check, x, term, x.about(term, 0), 0, 0);
    }

    @Says(in = "What it is", text = "An object is used for at most 512 calls after it has been made")
    static void theLastOf512Calls(Check check) {
        DemandTerms x = new DemandTerms();
        check.due("call 1", x.versions(48), 0);
        for (int call = 2; call <= 512; call++) {
            check.due("call " + call, x.term(0, call, true), call - 2);
        }
        DemandTerms y = Check.with(1, 48);
        for (int call = 3; call <= 302; call++) {
            y.needs(0, 0, 1, call, 0);
        }
        check.due("call 303", y.derive(0, 0), 300);
        for (int call = 304; call <= 511; call++) {
            check.due("call " + call, y.partSet(call - 304, 1), call - 301);
        }
        check.due("call 512", y.spread(), NONE);
    }

    @Says(in = "Terms", text = "The constants: `NONE = -1`: None.")
    static void theConstant(Check check) {
        check.due("NONE", DemandTerms.NONE, -1);
    }

    @Says(in = "Terms", text = "NAMES, at most 16, numbered from 0")
    static void namesFromZero(Check check) {
        DemandTerms x = new DemandTerms();
        for (int name = 0; name < 16; name++) {
            check.due("versions(1)", x.versions(1), name);
        }
        check.due("a 17th", x.versions(1), NONE);
        check.due("the last one is there", x.chosen(15, 0), 15);
        check.due("a 17th isn't there", x.chosen(16, 0), NONE);
    }

    @Says(in = "Terms", text = "have VERSIONS 0 .. up to 47")
    static void versionsUpTo47(Check check) {
        DemandTerms x = Check.with(48, 1);
        check.due("version 0", x.needs(0, 0, 1, 1, 0), true);
        check.due("version 47", x.needs(0, 47, 1, 1, 0), true);
        check.due("version 48", x.needs(0, 48, 1, 1, 0), false);
        check.due("version 47", x.derive(0, 47), 1);
        check.due("version 48", x.derive(0, 48), NONE);
        check.due("version 0 of 1", x.needs(1, 0, 0, 1, 0), true);
        check.due("version 1 of 1", x.needs(1, 1, 0, 1, 0), false);
    }

    @Says(in = "Terms", text = "A SET of versions is bits 0 .. 47")
    static void bitsUpTo47(Check check) {
        DemandTerms x = Check.with(48);
        dueTerm(check, x, x.term(0, 1, true), 0, 1, 1);
        dueTerm(check, x, x.term(0, 1L << 47, true), 0, 1, 1L << 47);
        dueTerm(check, x, x.term(0, 1L << 47, false), 0, 0, 1L << 47);
        dueTerm(check, x, x.term(0, ALL, true), 0, 1, ALL);
        for (int bit = 48; bit < 64; bit++) {
            dueEmpty(check, x, x.term(0, 1L << bit, true));
            dueFull(check, x, x.term(0, 1L << bit, false));
        }
    }

    @Says(in = "Terms", text = "versions that aren't there are never in it")
    static void versionsThatArentThere(Check check) {
        for (int n : new int[] {0, 1, 31, 32, 33, 47}) {
            DemandTerms x = Check.with(n, 48);
            long there = (1L << n) - 1;
            dueTerm(check, x, x.term(0, -1L, true), 0, 1, there);
            dueTerm(check, x, x.term(0, -1L, false), 0, 0, there);
            dueEmpty(check, x, x.term(0, 1L << n, true));
            dueFull(check, x, x.term(0, 1L << n, false));
            dueTerm(check, x, x.both(0, 1, true), 0, 0, 0);
            check.due("bar", x.bar(0, -1L, false), 0);
            check.due("bar", x.partSet(0, 0), there);
            x.needs(1, 47, 0, -1L, 0);
            x.derive(1, 47);
            check.due("derived", x.part(1, 0, 0), n == 0 ? 1 : 0);
            check.due("derived", x.partSet(1, 0), n == 0 ? 1L << 47 : there);
            x.choose(0);
            check.due("chosen", x.chosenSet(0), there);
            x.forget();
            x.choose(1);
            check.due("chosen NOT", x.chosenSet(0), there);
        }
    }

    @Says(in = "Terms", text = "A WORLD gives each name one of its versions, or none")
    static void aWorldMayGiveNone(Check check) {
        DemandTerms x = Check.with(48);
        int any = x.term(0, -1L, true);
        int none = x.term(0, -1L, false);
        int full = x.term(0, 0, false);
        check.due("any version isn't always", x.relate(full, any), 0);
        check.due("none isn't never", x.relate(none, none), 1);
        check.due("none isn't never", x.relate(none, full), 1);
        check.due("none has no version", x.relate(none, any), -1);
        check.due("any version isn't none", x.relate(any, none), -1);
        x.choose(none);
        check.due("none can be chosen", x.chosen(0, 1), 0);
        check.due("none can be chosen", x.chosen(0, 2), 48);
    }

    @Says(in = "Terms", text = {"A TERM of a name, with a SET:", "WANTED: the name has a version of the SET; else NOT: it has none, or one that isn't in the SET."})
    static void wantedOrNot(Check check) {
        DemandTerms x = Check.with(2);
        int zero = x.term(0, 1, true);
        int notZero = x.term(0, 1, false);
        int one = x.term(0, 2, true);
        int none = x.term(0, 3, false);
        check.due("WANTED with a version of the SET", x.relate(zero, zero), 1);
        check.due("WANTED with another version", x.relate(one, zero), -1);
        check.due("WANTED with none", x.relate(none, zero), -1);
        check.due("NOT with a version of the SET", x.relate(zero, notZero), -1);
        check.due("NOT with another version", x.relate(one, notZero), 1);
        check.due("NOT with none", x.relate(none, notZero), 1);
    }

    @Says(in = "Terms", text = "TERMS, at most 600, are numbered from 0.")
    static void termsFromZero(Check check) {
        DemandTerms x = Check.with(3, 3);
        check.due("the first", x.term(1, 1, true), 0);
        check.due("the second", x.both(0, 0, false), 1);
        x.bar(0, 1, false);
        x.choose(0);
        check.due("others make no TERM that has a number", x.term(0, 1, true), 2);
    }

    @Says(in = "Terms", text = {
        "Of two TERMS of one name BOTH is that which is true where both are, EITHER that which is true where one of both is",
        "if it is true of none, a NOT one of the versions of which it isn't true; else a WANTED one of those of which it is."})
    static void bothAndEitherOfEachKind(Check check) {
        DemandTerms x = Check.with(48);
        long low = 7;
        long high = 6 | 1L << 47;
        int wantedLow = x.term(0, low, true);
        int wantedHigh = x.term(0, high, true);
        int notLow = x.term(0, low, false);
        int notHigh = x.term(0, high, false);
        dueTerm(check, x, x.both(wantedLow, wantedHigh, false), 0, 1, low & high);
        dueTerm(check, x, x.both(wantedLow, wantedHigh, true), 0, 1, low | high);
        dueTerm(check, x, x.both(wantedLow, notHigh, false), 0, 1, low & ~high);
        dueTerm(check, x, x.both(wantedLow, notHigh, true), 0, 0, high & ~low);
        dueTerm(check, x, x.both(notLow, wantedHigh, false), 0, 1, high & ~low);
        dueTerm(check, x, x.both(notLow, wantedHigh, true), 0, 0, low & ~high);
        dueTerm(check, x, x.both(notLow, notHigh, false), 0, 0, low | high);
        dueTerm(check, x, x.both(notLow, notHigh, true), 0, 0, low & high);
    }

    @Says(in = "Terms", text = "A TERM is EMPTY if it is never true (WANTED with an empty SET), FULL if always (NOT with an empty SET).")
    static void emptyAndFullInBothAndEither(Check check) {
        DemandTerms x = Check.with(48);
        int empty = x.term(0, 0, true);
        int full = x.term(0, 0, false);
        int any = x.term(0, -1L, true);
        int none = x.term(0, -1L, false);
        int some = x.term(0, 5, true);
        dueEmpty(check, x, x.both(any, none, false));
        dueFull(check, x, x.both(any, none, true));
        dueEmpty(check, x, x.both(some, empty, false));
        dueEmpty(check, x, x.both(empty, full, false));
        dueFull(check, x, x.both(empty, full, true));
        dueFull(check, x, x.both(some, full, true));
        dueTerm(check, x, x.both(some, full, false), 0, 1, 5);
        dueTerm(check, x, x.both(some, empty, true), 0, 1, 5);
        dueTerm(check, x, x.both(none, empty, true), 0, 0, ALL);
        dueTerm(check, x, x.both(none, full, false), 0, 0, ALL);
        dueTerm(check, x, x.both(any, some, true), 0, 1, ALL);
        dueEmpty(check, x, x.both(some, none, false));
        dueTerm(check, x, x.both(some, none, true), 0, 0, ALL & ~5);
    }

    @Says(in = "Terms", text = "A TERM is EMPTY if it is never true (WANTED with an empty SET), FULL if always (NOT with an empty SET).")
    static void aNameWithoutVersions(Check check) {
        DemandTerms x = Check.with(0);
        int empty = x.term(0, -1L, true);
        int full = x.term(0, -1L, false);
        dueEmpty(check, x, empty);
        dueFull(check, x, full);
        dueEmpty(check, x, x.both(empty, full, false));
        dueFull(check, x, x.both(empty, full, true));
        check.due("FULL is true", x.relate(full, full), 1);
        check.due("EMPTY is never", x.relate(full, empty), -1);
    }

    @Says(in = "Promise 1", text = "No names.")
    static void noNames(Check check) {
        DemandTerms x = new DemandTerms();
        check.due("chosen", x.chosen(0, 0), NONE);
        check.due("chosenSet", x.chosenSet(0), 0);
        check.due("term", x.term(0, 0, false), NONE);
        check.due("both", x.both(0, 0, false), NONE);
        check.due("relate", x.relate(0, 0), -2);
        check.due("about", x.about(0, 0), NONE);
        check.due("set", x.set(0), 0);
        check.due("needs", x.needs(0, 0, 1, 0, 0), false);
        check.due("derive", x.derive(0, 0), NONE);
        check.due("bar", x.bar(0, 0, true), NONE);
        check.due("learn", x.learn(0, 0, 0), NONE);
        check.due("count", x.count(), 0);
        check.due("terms", x.terms(0), NONE);
        check.due("part", x.part(0, 0, 0), NONE);
        check.due("partSet", x.partSet(0, 0), 0);
        check.due("choose", x.choose(0), false);
        x.forget();
        check.due("state", x.state(0), -2);
        check.due("forced", x.forced(0), NONE);
        check.due("spread", x.spread(), NONE);
        check.due("print", x.print(0), NONE);
        check.due("at", x.at(0), NONE);
        check.due("versions", x.versions(0), 0);
    }

    @Says(in = "Promise 2", text = "NONE if there are 16")
    static void sixteenNames(Check check) {
        DemandTerms x = Check.with(1, 2, 3, 4, 5, 6, 7, 8, 9, 10, 11, 12, 13, 14, 15);
        check.due("the 16th", x.versions(48), 15);
        String before = Check.look(x);
        for (int n : new int[] {0, 1, 48}) {
            check.due("a 17th: versions(" + n + ")", x.versions(n), NONE);
        }
        check.due("a refused name leaves all as it was", Check.look(x), before);
        dueTerm(check, x, x.term(15, -1L, true), 15, 1, ALL);
        dueTerm(check, x, x.term(0, -1L, true), 0, 1, 1);
    }

    @Says(in = "Promise 2", text = "or it isn't 0 .. 48")
    static void howManyVersions(Check check) {
        DemandTerms x = new DemandTerms();
        for (int n : Check.outside(49)) {
            check.due("versions(" + n + ")", x.versions(n), NONE);
        }
        check.due("refused ones aren't there", x.chosen(0, 0), NONE);
        check.due("versions(0)", x.versions(0), 0);
        check.due("versions(49)", x.versions(49), NONE);
        check.due("versions(-1)", x.versions(-1), NONE);
        check.due("versions(48)", x.versions(48), 1);
    }

    @Says(in = "Promise 3", text = "NONE if there is no such name")
    static void termOfNoName(Check check) {
        DemandTerms x = Check.with(3, 3);
        x.term(1, 1, true);
        String before = Check.look(x);
        for (int name : Check.outside(2)) {
            check.due("term(" + name + ")", x.term(name, 1, true), NONE);
            check.due("NOT, term(" + name + ")", x.term(name, 0, false), NONE);
        }
        check.due("a refused TERM leaves all as it was", Check.look(x), before);
        check.due("the next one", x.term(1, 1, true), 1);
    }

    // A call makes one TERM at the most, so 600 are beyond the 512 calls; yet no call may ever throw.
    @Says(in = "Promise 3", text = "or there are 600")
    static void sixHundredTerms(Check check) {
        DemandTerms x = Check.with(3);
        for (int term = 0; term < 600; term++) {
            check.due("term", x.term(0, term, true), term);
        }
        check.due("WANTED", x.term(0, 1, true), NONE);
        check.due("NOT", x.term(0, 1, false), NONE);
        check.due("the last one is as it was", x.set(599), 599 & 7);
        check.due("the first one is as it was", x.set(0), 0);
        check.due("no more", x.about(600, 0), NONE);
    }

    @Says(in = "Promise 4", text = "NONE if there are none such")
    static void bothOfNone(Check check) {
        DemandTerms x = Check.with(3);
        x.term(0, 3, true);
        x.term(0, 0, true);
        x.term(0, 0, false);
        String before = Check.look(x);
        for (int wrong : Check.outside(3)) {
            check.due("both(" + wrong + ", 0)", x.both(wrong, 0, false), NONE);
            check.due("both(0, " + wrong + ")", x.both(0, wrong, true), NONE);
            check.due("both(1, " + wrong + "), EMPTY", x.both(1, wrong, false), NONE);
            check.due("both(2, " + wrong + "), FULL", x.both(2, wrong, true), NONE);
            check.due("both(" + wrong + ", " + wrong + ")", x.both(wrong, wrong, true), NONE);
        }
        check.due("a refused one leaves all as it was", Check.look(x), before);
    }

    @Says(in = "Promise 4", text = "they are of different names")
    static void bothOfDifferentNames(Check check) {
        DemandTerms x = Check.with(3, 3);
        for (int name = 0; name < 2; name++) {
            x.term(name, 3, true);
            x.term(name, 0, true);
            x.term(name, 0, false);
        }
        String before = Check.look(x);
        for (int a = 0; a < 3; a++) {
            for (int b = 3; b < 6; b++) {
                check.due("both(" + a + ", " + b + ")", x.both(a, b, false), NONE);
                check.due("both(" + b + ", " + a + ")", x.both(b, a, true), NONE);
            }
        }
        check.due("a refused one leaves all as it was", Check.look(x), before);
        check.due("the next one", x.both(3, 4, true), 6);
    }

    @Says(in = "Promise 4", text = "or there are 600")
    static void bothAtSixHundredTerms(Check check) {
        DemandTerms x = Check.with(3);
        x.term(0, 5, true);
        for (int term = 1; term < 600; term++) {
            check.due("both", x.both(0, 0, term % 2 == 0), term);
        }
        check.due("BOTH", x.both(0, 1, false), NONE);
        check.due("EITHER", x.both(0, 1, true), NONE);
        check.due("the last one is as it was", x.set(599), 5);
    }

    @Says(in = "Promise 5", text = "1 if the second TERM is true wherever the first one is, - 1 if never")
    static void relateAtItsEdges(Check check) {
        DemandTerms x = Check.with(48);
        int one = x.term(0, 1L << 47, true);
        int any = x.term(0, -1L, true);
        int none = x.term(0, -1L, false);
        int full = x.term(0, 0, false);
        int empty = x.term(0, 0, true);
        int notOne = x.term(0, 1L << 47, false);
        int allButOne = x.term(0, ALL >> 1, true);
        check.due("the last version, any", x.relate(one, any), 1);
        check.due("any, the last version", x.relate(any, one), 0);
        check.due("all but the last version, the last version", x.relate(allButOne, one), -1);
        check.due("all but the last version, NOT the last version", x.relate(allButOne, notOne), 1);
        check.due("NOT the last version, all but the last version", x.relate(notOne, allButOne), 0);
        check.due("none, NOT the last version", x.relate(none, notOne), 1);
        check.due("FULL second", x.relate(any, full), 1);
        check.due("FULL and FULL", x.relate(full, full), 1);
        check.due("FULL first", x.relate(full, notOne), 0);
        check.due("EMPTY second", x.relate(any, empty), -1);
        check.due("EMPTY second, FULL first", x.relate(full, empty), -1);
    }

    @Says(in = "Promise 5", text = "(also if the first one is EMPTY, whatever the other one's name)")
    static void relateOfAnEmptyFirst(Check check) {
        DemandTerms x = Check.with(3, 3, 0);
        int empty = x.term(0, 8, true);
        for (int name = 0; name < 3; name++) {
            check.due("WANTED of name " + name, x.relate(empty, x.term(name, 7, true)), -1);
            check.due("NOT of name " + name, x.relate(empty, x.term(name, 1, false)), -1);
            check.due("EMPTY of name " + name, x.relate(empty, x.term(name, 0, true)), -1);
            check.due("FULL of name " + name, x.relate(empty, x.term(name, 0, false)), -1);
        }
        check.due("itself", x.relate(empty, empty), -1);
        check.due("of a name without versions", x.relate(x.term(2, 1, true), x.term(1, 0, false)), -1);
    }

    @Says(in = "Promise 5", text = "else 0 (also of different names)")
    static void relateOfDifferentNames(Check check) {
        DemandTerms x = Check.with(3, 3);
        int some = x.term(0, 1, true);
        int full = x.term(0, 0, false);
        int[] others = {x.term(1, 1, true), x.term(1, 1, false), x.term(1, 0, true), x.term(1, 0, false)};
        for (int other : others) {
            check.due("WANTED first, " + other, x.relate(some, other), 0);
            check.due("FULL first, " + other, x.relate(full, other), 0);
        }
    }

    @Says(in = "Promise 5", text = "- 2 if there are none such")
    static void relateOfNone(Check check) {
        DemandTerms x = Check.with(3);
        x.term(0, 1, true);
        x.term(0, 0, true);
        for (int wrong : Check.outside(2)) {
            check.due("relate(" + wrong + ", 0)", x.relate(wrong, 0), -2);
            check.due("relate(0, " + wrong + ")", x.relate(0, wrong), -2);
            check.due("relate(1, " + wrong + "), EMPTY", x.relate(1, wrong), -2);
            check.due("relate(" + wrong + ", " + wrong + ")", x.relate(wrong, wrong), -2);
        }
    }

    @Says(in = "Promise 6", text = {"its name (what 0), 1 if it is WANTED, else 0 (1), how many versions its SET has (2)"})
    static void aboutOfEmptyAndFull(Check check) {
        DemandTerms x = Check.with(48, 48);
        dueTerm(check, x, x.term(1, 0, true), 1, 1, 0);
        dueTerm(check, x, x.term(1, 0, false), 1, 0, 0);
        dueTerm(check, x, x.term(1, -1L, true), 1, 1, ALL);
        dueTerm(check, x, x.term(1, -1L, false), 1, 0, ALL);
    }

    @Says(in = "Promise 6", text = "NONE if there is none such")
    static void aboutNone(Check check) {
        DemandTerms x = Check.with(3);
        x.term(0, 1, true);
        for (int wrong : Check.outside(1)) {
            for (int what = 0; what < 3; what++) {
                check.due("about(" + wrong + ", " + what + ")", x.about(wrong, what), NONE);
            }
        }
    }

    @Says(in = "Promise 6", text = "or for another what")
    static void aboutAnotherWhat(Check check) {
        DemandTerms x = Check.with(3);
        x.term(0, 1, true);
        for (int what : Check.outside(3)) {
            check.due("about(0, " + what + ")", x.about(0, what), NONE);
            check.due("about(1, " + what + ")", x.about(1, what), NONE);
        }
    }

    @Says(in = "Promise 7", text = "(versions that are there)")
    static void setOfVersionsThatAreThere(Check check) {
        for (int n = 0; n <= 48; n++) {
            DemandTerms x = Check.with(n);
            check.due("WANTED, of " + n, x.set(x.term(0, -1L, true)), (1L << n) - 1);
            check.due("NOT, of " + n, x.set(x.term(0, -1L, false)), (1L << n) - 1);
            check.due("BOTH NOT, of " + n, x.set(x.both(1, 1, false)), (1L << n) - 1);
            check.due("the next version, of " + n, x.set(x.term(0, 1L << n, true)), 0);
            check.due("the next version, NOT, of " + n, x.set(x.term(0, 1L << n, false)), 0);
            check.due("Long.MIN_VALUE, of " + n, x.set(x.term(0, Long.MIN_VALUE, false)), 0);
        }
    }

    @Says(in = "Promise 7", text = "0 if there is none such")
    static void setOfNone(Check check) {
        DemandTerms x = Check.with(3);
        x.term(0, 7, true);
        for (int wrong : Check.outside(1)) {
            check.due("set(" + wrong + ")", x.set(wrong), 0);
        }
    }
}
