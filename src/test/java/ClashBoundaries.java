/** Boundary cases of needs, of incompatibilities and of how these are printed: promises 8 to 15, 23 and 24. */
final class ClashBoundaries {
    private static final int NONE = DemandTerms.NONE;
    private static final long ALL = (1L << 48) - 1;

    private ClashBoundaries() {
    }

    /** Sixteen names of so many versions. */
    private static DemandTerms withSixteen(int versions) {
        DemandTerms x = new DemandTerms();
        for (int name = 0; name < 16; name++) {
            x.versions(versions);
        }
        return x;
    }

    /** Bars name 0 until there are so many incompatibilities. */
    private static void fillUp(DemandTerms x, int count) {
        for (int k = x.count(); k < count; k++) {
            x.bar(0, 1, false);
        }
    }

    @Says(in = "Terms", text = "INCOMPATIBILITIES, at most 300, numbered from 0")
    static void clashesFromZero(Check check) {
        DemandTerms x = Check.with(3, 3);
        check.due("a barred one", x.bar(0, 1, false), 0);
        x.needs(0, 0, 1, 1, 0);
        x.needs(0, 0, 1, 2, 0);
        x.derive(0, 0);
        check.due("derived ones", x.count(), 3);
        check.due("a learned one", x.learn(0, 1, 0), 3);
        for (int k = 4; k < 300; k++) {
            check.due("bar", x.bar(0, 1, false), k);
        }
        check.due("at most 300", x.bar(0, 1, false), NONE);
        check.due("at most 300", x.count(), 300);
    }

    @Says(in = "Terms", text = "have at most one TERM of each name, none of them FULL, sorted by names: not all of them may be true.")
    static void oneTermOfEachName(Check check) {
        DemandTerms x = withSixteen(2);
        int last = x.bar(15, 1, false);
        StringBuilder want = new StringBuilder("a 0");
        for (int name = 14; name >= 0; name--) {
            x.needs(name, 0, name + 1, 2, 0);
            x.derive(name, 0);
            last = x.learn(last, x.count() - 1, name + 1);
        }
        for (int name = 1; name < 16; name++) {
            want.append("; !").append((char) ('a' + name)).append(" 1");
        }
        check.due("terms", x.terms(last), 16);
        for (int i = 0; i < 16; i++) {
            check.due("sorted", x.part(last, i, 0), i);
        }
        check.duePrint("of all names", x, last, want.toString());
    }

    @Says(in = "Terms", text = "have at most one TERM of each name, none of them FULL, sorted by names: not all of them may be true.")
    static void noneIsFull(Check check) {
        DemandTerms x = Check.with(2, 2, 0);
        x.bar(0, 0, true);
        check.due("barred", x.terms(0), 0);
        x.bar(2, -1L, true);
        check.due("barred, of a name without versions", x.terms(1), 0);
        x.needs(1, 0, 0, 4, 0);
        x.derive(1, 0);
        check.duePrint("derived", x, 2, "b 0");
        x.bar(1, 1, true);
        x.learn(2, 3, 1);
        check.due("learned", x.terms(4), 0);
        x.bar(0, 0, false);
        check.due("EMPTY isn't FULL", x.terms(5), 1);
        x.bar(0, -1L, true);
        check.due("NOT any version isn't FULL", x.terms(6), 1);
        x.bar(0, -1L, false);
        check.due("any version isn't FULL", x.terms(7), 1);
    }

    @Says(in = "Terms", text = "(One without TERMS: nothing may be.)")
    static void oneWithoutTerms(Check check) {
        DemandTerms x = Check.with(2);
        check.due("bar", x.bar(0, 0, true), 0);
        check.due("terms", x.terms(0), 0);
        check.due("part", x.part(0, 0, 0), NONE);
        check.due("partSet", x.partSet(0, 0), 0);
        check.due("state", x.state(0), 1);
        check.due("forced", x.forced(0), NONE);
        check.due("spread", x.spread(), 0);
        check.due("learn", x.learn(0, 0, 0), NONE);
        check.duePrint("print", x, 0, "");
    }

    @Says(in = "Terms", text = "NEEDS, at most 400 rows, as they come")
    static void rowsAsTheyCome(Check check) {
        DemandTerms x = Check.with(1, 48);
        for (int row = 0; row < 300; row++) {
            check.due("row " + row, x.needs(0, 0, 1, 1000 - row, 0), true);
        }
        check.due("derive", x.derive(0, 0), 300);
        for (int k = 0; k < 150; k++) {
            check.due("as they came", x.partSet(2 * k + 1, 1), 999 - 2 * k);
        }
    }

    @Says(in = "Terms", text = {"a VERSION of a name, of a CLASS 0 .. 7, needs another name in a SET."})
    static void eachClass(Check check) {
        DemandTerms x = Check.with(1, 2);
        for (int kind = 0; kind < 8; kind++) {
            check.due("class " + kind, x.needs(0, 0, 1, 1, kind), true);
        }
        check.due("class -1", x.needs(0, 0, 1, 1, -1), false);
        check.due("class 8", x.needs(0, 0, 1, 1, 8), false);
        check.due("an incompatibility of each class", x.derive(0, 0), 8);
        check.duePrint("class 7", x, 7, "a 0; !b 0");
    }

    @Says(in = "Terms", text = {
        "DERIVED for a version: for each of its rows, as they came, whose other name, SET and CLASS no incompatibility that was derived before has with this name and version, a new one"})
    static void derivedOnce(Check check) {
        DemandTerms x = Check.with(3, 3, 3);
        for (int time = 0; time < 3; time++) {
            x.needs(0, 0, 1, 1 | 8L << time, 0);
        }
        check.due("equal rows", x.derive(0, 0), 1);
        check.due("again", x.derive(0, 0), 0);
        x.needs(0, 0, 1, 1, 0);
        check.due("an equal row that came later", x.derive(0, 0), 0);
        x.needs(0, 0, 2, 1, 0);
        check.due("another other name", x.derive(0, 0), 1);
        x.needs(0, 0, 1, 3, 0);
        check.due("another SET", x.derive(0, 0), 1);
        x.needs(0, 0, 1, 1, 1);
        check.due("another CLASS", x.derive(0, 0), 1);
        x.needs(0, 1, 1, 1, 0);
        check.due("another version", x.derive(0, 1), 1);
        x.needs(2, 0, 1, 1, 0);
        check.due("another name", x.derive(2, 0), 1);
        check.due("all", x.count(), 6);
    }

    @Says(in = "Terms", text = {
        "DERIVED for a version: for each of its rows, as they came, whose other name, SET and CLASS no incompatibility that was derived before has with this name and version, a new one"})
    static void alikeButNotDerived(Check check) {
        DemandTerms x = Check.with(2, 2, 0);
        x.needs(0, 0, 1, 1, 0);
        x.needs(0, 0, 2, 1, 0);
        x.derive(0, 0);
        x.learn(0, 0, 0);
        x.needs(0, 0, 1, 1, 1);
        check.due("a learned one that is alike", x.derive(0, 0), 1);
        x.bar(0, 2, false);
        x.needs(0, 1, 2, 1, 1);
        check.due("a barred one that is alike", x.derive(0, 1), 1);
        check.duePrint("it and the barred one", x, 5, "a 1");
    }

    @Says(in = "Terms", text = "this name WANTED with the run of neighbouring versions, to both sides of this one, that by now have such a row each (the same other name, SET, CLASS)")
    static void runsAtTheEnds(Check check) {
        DemandTerms x = Check.with(48, 2);
        for (int version = 0; version < 48; version++) {
            x.needs(0, version, 1, 1, 0);
            if (version < 2 || version > 45) {
                x.needs(0, version, 1, 2, 1);
            }
        }
        check.due("all versions, from the middle", x.derive(0, 20), 1);
        check.duePrint("all versions", x, 0, "a 0-47; !b 0");
        check.due("the first ones", x.derive(0, 0), 1);
        check.duePrint("the first ones", x, 1, "a 0-1; !b 1");
        check.due("the last ones", x.derive(0, 47), 1);
        check.duePrint("the last ones", x, 2, "a 46-47; !b 1");
        for (int version = 0; version < 48; version++) {
            check.due("each of them has one by now", x.derive(0, version), 0);
        }
    }

    @Says(in = "Terms", text = "this name WANTED with the run of neighbouring versions, to both sides of this one, that by now have such a row each (the same other name, SET, CLASS)")
    static void runsEndAtOtherRows(Check check) {
        DemandTerms x = Check.with(9, 3, 3);
        for (int version = 0; version < 9; version += 2) {
            x.needs(0, version, 1, 1, 0);
        }
        x.needs(0, 1, 2, 1, 0);
        x.needs(0, 3, 1, 2, 0);
        x.needs(0, 5, 1, 1, 1);
        x.needs(1, 1, 0, 1, 0);
        for (int version = 0; version < 9; version += 2) {
            check.due("a version alone", x.derive(0, version), 1);
            check.due("a version alone", x.partSet(version / 2, 0), 1L << version);
        }
        x.needs(0, 7, 1, 1, 0);
        check.due("those before keep theirs", x.derive(0, 8), 0);
        check.due("by now", x.derive(0, 7), 1);
        check.duePrint("by now, with those that have one", x, 5, "a 6-8; !b 0");
        check.due("those before are as they were", x.partSet(4, 0), 1 << 8);
    }

    @Says(in = "Terms", text = "the other name NOT with the SET.")
    static void emptyAndFullSetsOfNeeds(Check check) {
        DemandTerms x = Check.with(3, 48, 0);
        x.needs(0, 0, 1, 0, 0);
        x.needs(0, 0, 2, 0, 0);
        x.needs(0, 0, 2, -1L, 0);
        x.needs(0, 0, 1, -1L, 0);
        check.due("derive", x.derive(0, 0), 3);
        check.duePrint("an empty SET", x, 0, "a 0");
        check.duePrint("a name without versions", x, 1, "a 0");
        check.duePrint("all versions", x, 2, "a 0; !b 0-47");
        check.due("SETS without versions that are there", x.derive(0, 0), 0);
        x.needs(0, 1, 1, 1L << 48, 0);
        check.due("an empty SET, the next version", x.derive(0, 1), 1);
        check.duePrint("an empty SET, with its neighbour", x, 3, "a 0-1");
    }

    @Says(in = "Terms", text = "LEARNED from two that both have a TERM of a name: that name's EITHER, and of each other name the TERM that one of them has, or BOTH; FULL ones fall away.")
    static void learnedAtItsEdges(Check check) {
        DemandTerms x = Check.with(3, 3, 3);
        x.needs(0, 0, 1, 1, 0);
        x.needs(0, 2, 1, 6, 0);
        x.needs(2, 0, 1, 6, 0);
        x.derive(0, 0);
        x.derive(0, 2);
        x.derive(2, 0);
        x.learn(0, 1, 1);
        check.duePrint("BOTH is EMPTY, EITHER FULL", x, 3, "a ");
        x.learn(0, 2, 1);
        check.duePrint("a TERM that one of them has", x, 4, "a 0; c 0");
        x.learn(0, 1, 0);
        check.duePrint("BOTH NOT any version", x, 5, "a 0,2; !b 0-2");
        x.learn(3, 3, 0);
        check.duePrint("EITHER of two EMPTY ones", x, 6, "a ");
        x.learn(3, 0, 0);
        check.duePrint("EITHER with an EMPTY one", x, 7, "a 0; !b 0");
        x.bar(0, 1, true);
        x.learn(8, 4, 0);
        check.duePrint("EITHER FULL, c stays", x, 9, "c 0");
        x.bar(2, 1, true);
        x.learn(10, 9, 2);
        check.due("all fall away", x.terms(11), 0);
        x.learn(2, 2, 1);
        check.duePrint("of one with itself", x, 12, "!b 1-2; c 0");
    }

    @Says(in = "Promise 8", text = "false if there is no such name, version, CLASS, other name (or it is the same)")
    static void rowsOfNothing(Check check) {
        DemandTerms x = Check.with(3, 2, 0);
        for (int wrong : Check.outside(3)) {
            check.due("name " + wrong, x.needs(wrong, 0, 1, 1, 0), false);
            check.due("version " + wrong, x.needs(0, wrong, 1, 1, 0), false);
            check.due("other name " + wrong, x.needs(0, 0, wrong, 1, 0), false);
        }
        for (int wrong : Check.outside(8)) {
            check.due("class " + wrong, x.needs(0, 0, 1, 1, wrong), false);
        }
        check.due("a version of the other name's alone", x.needs(1, 2, 0, 1, 0), false);
        check.due("a name without versions", x.needs(2, 0, 0, 1, 0), false);
        for (int name = 0; name < 2; name++) {
            check.due("the same name", x.needs(name, 0, name, 1, 0), false);
            check.due("no row came", x.derive(name, 0), 0);
        }
        check.due("the last of each", x.needs(0, 2, 2, 1, 7), true);
        check.due("the last of each", x.derive(0, 2), 1);
    }

    @Says(in = "Promise 8", text = "or there are 400.")
    static void fourHundredRows(Check check) {
        DemandTerms x = Check.with(3, 2);
        check.due("refused", x.needs(0, 0, 0, 1, 0), false);
        for (int row = 0; row < 399; row++) {
            check.due("row " + row, x.needs(0, 0, 1, 1, 0), true);
        }
        check.due("row 399", x.needs(0, 1, 1, 1, 0), true);
        check.due("row 400", x.needs(0, 2, 1, 1, 0), false);
        check.due("row 400, alike", x.needs(0, 0, 1, 1, 0), false);
        check.due("row 400 didn't come", x.derive(0, 2), 0);
        check.due("row 399 came", x.derive(0, 1), 1);
        check.duePrint("row 399 came", x, 0, "a 0-1; !b 0");
        check.due("deriving takes no row away", x.needs(0, 2, 1, 1, 0), false);
    }

    @Says(in = "Promise 9", text = "how many new incompatibilities")
    static void nothingToDerive(Check check) {
        DemandTerms x = Check.with(3, 3);
        check.due("no rows", x.derive(0, 0), 0);
        x.needs(0, 0, 1, 1, 0);
        check.due("rows of another version", x.derive(0, 1), 0);
        check.due("rows that need it", x.derive(1, 0), 0);
        check.due("one row", x.derive(0, 0), 1);
        check.due("no row that is new", x.derive(0, 0), 0);
        check.due("count", x.count(), 1);
    }

    @Says(in = "Promise 9", text = "NONE if there is none such")
    static void deriveForNone(Check check) {
        DemandTerms x = Check.with(3, 2, 0);
        x.needs(0, 0, 1, 1, 0);
        for (int wrong : Check.outside(3)) {
            check.due("name " + wrong, x.derive(wrong, 0), NONE);
            check.due("version " + wrong, x.derive(0, wrong), NONE);
        }
        check.due("a version of another name's", x.derive(1, 2), NONE);
        check.due("a name without versions", x.derive(2, 0), NONE);
        check.due("none is new", x.count(), 0);
        check.due("the last version", x.derive(0, 2), 0);
    }

    @Says(in = "Promise 9", text = "or there would be more than 300 (then none is new).")
    static void deriveTooMany(Check check) {
        DemandTerms x = Check.with(3, 48);
        for (int row = 1; row <= 3; row++) {
            x.needs(0, 0, 1, row, 0);
        }
        x.needs(0, 2, 1, 9, 0);
        fillUp(x, 298);
        check.due("301", x.derive(0, 0), NONE);
        check.due("none is new", x.count(), 298);
        check.due("none is new", x.terms(298), NONE);
        check.due("none is new", x.part(298, 0, 0), NONE);
        check.due("none is new", x.print(298), NONE);
        check.due("299", x.derive(0, 2), 1);
        check.duePrint("299", x, 298, "a 2; !b 0,3");
        check.due("still too many", x.derive(0, 0), NONE);
        check.due("still none is new", x.count(), 299);
        check.due("300", x.learn(298, 298, 0), 299);
        check.duePrint("nothing is left of refused ones", x, 299, "a 2; !b 0,3");
        check.due("at 300", x.derive(0, 0), NONE);
        check.due("at 300, with none that is new", x.derive(0, 2), 0);
        check.due("at 300, without rows", x.derive(0, 1), 0);
    }

    @Says(in = "Promise 9", text = "or there would be more than 300 (then none is new).")
    static void deriveUpTo300(Check check) {
        DemandTerms x = Check.with(2, 48);
        x.needs(0, 0, 1, 1, 0);
        x.needs(0, 0, 1, 2, 0);
        x.needs(0, 0, 1, 1, 0);
        fillUp(x, 298);
        check.due("just 300, equal rows count once", x.derive(0, 0), 2);
        check.duePrint("the last one", x, 299, "a 0; !b 1");
        DemandTerms y = Check.with(1, 48);
        for (int row = 0; row < 301; row++) {
            y.needs(0, 0, 1, row, 0);
        }
        check.due("301 at once", y.derive(0, 0), NONE);
        check.due("301 at once", y.count(), 0);
        check.due("the next one", y.bar(0, 0, true), 0);
        check.due("the next one", y.terms(0), 0);
    }

    @Says(in = "Promise 10", text = "A new incompatibility of one TERM: a name WANTED in a SET can't be (or, demanded: NOT in the SET can't be)")
    static void barAtItsEdges(Check check) {
        DemandTerms x = Check.with(48, 0);
        String[] want = {"a ", "", "a 0-47", "!a 0-47", "b ", "", "a 47", "!a 47"};
        x.bar(0, 0, false);
        x.bar(0, 0, true);
        x.bar(0, -1L, false);
        x.bar(0, -1L, true);
        x.bar(1, -1L, false);
        x.bar(1, -1L, true);
        x.bar(0, -1L << 47, false);
        x.bar(0, -1L << 47, true);
        for (int k = 0; k < want.length; k++) {
            check.duePrint("bar", x, k, want[k]);
        }
    }

    @Says(in = "Promise 10", text = "NONE if there is none such")
    static void barNoName(Check check) {
        DemandTerms x = Check.with(3, 3);
        for (int wrong : Check.outside(2)) {
            check.due("bar(" + wrong + ")", x.bar(wrong, 1, false), NONE);
            check.due("demanded, bar(" + wrong + ")", x.bar(wrong, 0, true), NONE);
        }
        check.due("none is new", x.count(), 0);
        check.due("the next one", x.bar(1, 1, false), 0);
    }

    @Says(in = "Promise 10", text = "or there are 300.")
    static void barAt300(Check check) {
        DemandTerms x = Check.with(3);
        for (int k = 0; k < 300; k++) {
            check.due("bar", x.bar(0, k, true), k);
        }
        check.due("WANTED", x.bar(0, 1, false), NONE);
        check.due("NOT", x.bar(0, 1, true), NONE);
        check.due("without TERMS", x.bar(0, 0, true), NONE);
        check.due("count", x.count(), 300);
        check.due("the last one is as it was", x.partSet(299, 0), 299 & 7);
        check.due("no more", x.terms(300), NONE);
    }

    @Says(in = "Promise 11", text = "NONE if there are none such")
    static void learnFromNone(Check check) {
        DemandTerms x = Check.with(3, 3);
        x.needs(0, 0, 1, 1, 0);
        x.derive(0, 0);
        for (int wrong : Check.outside(1)) {
            check.due("first " + wrong, x.learn(wrong, 0, 0), NONE);
            check.due("second " + wrong, x.learn(0, wrong, 0), NONE);
            check.due("both " + wrong, x.learn(wrong, wrong, 0), NONE);
        }
        for (int wrong : Check.outside(2)) {
            check.due("name " + wrong, x.learn(0, 0, wrong), NONE);
        }
        check.due("none is new", x.count(), 1);
        check.due("the next one", x.learn(0, 0, 1), 1);
    }

    @Says(in = "Promise 11", text = "one has no TERM of the name")
    static void learnWithoutATerm(Check check) {
        DemandTerms x = Check.with(3, 3, 3);
        x.bar(0, 1, false);
        x.bar(1, 1, false);
        x.bar(0, 0, true);
        check.due("the second has none", x.learn(0, 1, 0), NONE);
        check.due("the first has none", x.learn(0, 1, 1), NONE);
        check.due("both have none", x.learn(0, 1, 2), NONE);
        check.due("one fell away", x.learn(0, 2, 0), NONE);
        check.due("one fell away", x.learn(2, 0, 0), NONE);
        check.due("none is new", x.count(), 3);
        x.bar(0, 0, false);
        check.due("an EMPTY one is there", x.learn(0, 3, 0), 4);
    }

    @Says(in = "Promise 11", text = "or there are 300.")
    static void learnAt300(Check check) {
        DemandTerms x = Check.with(3);
        fillUp(x, 150);
        for (int k = 150; k < 300; k++) {
            check.due("learn", x.learn(k - 1, 0, 0), k);
        }
        check.due("at 300", x.learn(299, 0, 0), NONE);
        check.due("count", x.count(), 300);
        check.duePrint("the last one is as it was", x, 299, "a 0");
    }

    @Says(in = "Promise 12", text = "How many incompatibilities there are.")
    static void countFrom0To300(Check check) {
        DemandTerms x = Check.with(3);
        check.due("none", x.count(), 0);
        x.bar(0, 0, true);
        check.due("one without TERMS counts", x.count(), 1);
        x.bar(1, 0, true);
        check.due("a refused one doesn't", x.count(), 1);
        for (int k = 1; k < 300; k++) {
            x.bar(0, 1, false);
        }
        check.due("300", x.count(), 300);
        x.bar(0, 1, false);
        check.due("no more than 300", x.count(), 300);
    }

    @Says(in = "Promise 13", text = {"How many TERMS one has", "NONE if there is none such."})
    static void termsOfNone(Check check) {
        DemandTerms x = Check.with(3);
        check.due("of no one", x.terms(0), NONE);
        x.bar(0, 0, true);
        x.bar(0, 0, false);
        for (int wrong : Check.outside(2)) {
            check.due("terms(" + wrong + ")", x.terms(wrong), NONE);
        }
        check.due("without TERMS isn't NONE", x.terms(0), 0);
        check.due("an EMPTY TERM counts", x.terms(1), 1);
    }

    @Says(in = "Promise 14", text = {"as about", "NONE if there is none such."})
    static void partOfNone(Check check) {
        DemandTerms x = Check.with(3, 3, 3);
        x.needs(2, 0, 1, 3, 0);
        x.derive(2, 0);
        x.bar(2, 0, false);
        x.bar(2, 0, true);
        for (int wrong : Check.outside(3)) {
            check.due("incompatibility " + wrong, x.part(wrong, 0, 1), NONE);
            check.due("another what " + wrong, x.part(0, 0, wrong), NONE);
        }
        for (int wrong : Check.outside(2)) {
            check.due("TERM " + wrong, x.part(0, wrong, 1), NONE);
            check.due("of one without TERMS " + wrong, x.part(2, wrong, 1), NONE);
        }
        check.due("the number isn't the name", x.part(0, 0, 0), 1);
        check.due("the last one", x.part(0, 1, 0), 2);
        check.due("of one TERM", x.part(1, 1, 0), NONE);
        check.due("EMPTY: name", x.part(1, 0, 0), 2);
        check.due("EMPTY: WANTED", x.part(1, 0, 1), 1);
        check.due("EMPTY: versions", x.part(1, 0, 2), 0);
    }

    @Says(in = "Promise 15", text = {"Its SET", "0 if there is none such."})
    static void partSetOfNone(Check check) {
        DemandTerms x = Check.with(48, 48, 48);
        x.needs(2, 47, 1, -1L, 0);
        x.derive(2, 47);
        x.bar(2, 0, true);
        for (int wrong : Check.outside(2)) {
            check.due("incompatibility " + wrong, x.partSet(wrong, 0), 0);
            check.due("TERM " + wrong, x.partSet(0, wrong), 0);
            check.due("of one without TERMS " + wrong, x.partSet(1, wrong), 0);
        }
        check.due("all versions", x.partSet(0, 0), ALL);
        check.due("the last version", x.partSet(0, 1), 1L << 47);
    }

    @Says(in = "Promise 23", text = "NONE if there is none such (what was printed before stays).")
    static void printNone(Check check) {
        DemandTerms x = Check.with(3);
        check.due("before there is one", x.print(0), NONE);
        check.due("nothing was printed before", x.at(0), NONE);
        x.bar(0, 6, true);
        check.duePrint("one", x, 0, "!a 1-2");
        for (int wrong : Check.outside(1)) {
            check.due("print(" + wrong + ")", x.print(wrong), NONE);
            check.due("what was printed before stays", Check.printed(x), "!a 1-2");
        }
    }

    @Says(in = "Promise 23", text = "An incompatibility is printed: how many signs")
    static void printNoSigns(Check check) {
        DemandTerms x = Check.with(3);
        x.bar(0, 6, true);
        x.bar(0, 0, true);
        check.duePrint("six signs", x, 0, "!a 1-2");
        check.duePrint("none: what was printed before is gone", x, 1, "");
        check.due("none", x.at(0), NONE);
        check.duePrint("six signs again", x, 0, "!a 1-2");
    }

    @Says(in = "Promise 23", text = "Its TERMS with \"; \" between: ! if NOT, the name as a letter a .. p, a blank")
    static void printTheLastName(Check check) {
        DemandTerms x = withSixteen(3);
        x.bar(0, 1, false);
        x.bar(15, 1, true);
        x.needs(15, 2, 0, 3, 0);
        x.needs(0, 2, 15, 3, 0);
        x.derive(15, 2);
        x.derive(0, 2);
        check.duePrint("a", x, 0, "a 0");
        check.duePrint("p", x, 1, "!p 0");
        check.duePrint("a NOT, p", x, 2, "!a 0-1; p 2");
        check.duePrint("a, p NOT", x, 3, "a 2; !p 0-1");
    }

    @Says(in = "Promise 23", text = "and the runs of versions with , between: \"3\" or \"3-5\"")
    static void printRuns(Check check) {
        DemandTerms x = Check.with(48);
        dueRuns(check, x, 1, "0");
        dueRuns(check, x, 3, "0-1");
        dueRuns(check, x, 5, "0,2");
        dueRuns(check, x, 1 << 9, "9");
        dueRuns(check, x, 1 << 10, "10");
        dueRuns(check, x, 3 << 9, "9-10");
        dueRuns(check, x, 5 << 9, "9,11");
        dueRuns(check, x, 3L << 46, "46-47");
        dueRuns(check, x, 1L << 47, "47");
        dueRuns(check, x, 1 | 1L << 47, "0,47");
        dueRuns(check, x, -1L, "0-47");
        dueRuns(check, x, ALL >> 1, "0-46");
        dueRuns(check, x, ALL - 1, "1-47");
        dueRuns(check, x, ALL - (1L << 24), "0-23,25-47");
        dueRuns(check, x, 0x5555_5555_5555L, "0,2,4,6,8,10,12,14,16,18,20,22,24,26,28,30,32,34,36,38,40,42,44,46");
        dueRuns(check, x, 0xAAAA_AAAA_AAAAL, "1,3,5,7,9,11,13,15,17,19,21,23,25,27,29,31,33,35,37,39,41,43,45,47");
    }

    private static void dueRuns(Check check, DemandTerms x, long set, String want) {
        check.duePrint("WANTED", x, x.bar(0, set, false), "a " + want);
        if (want.length() < 12) {
            check.duePrint("NOT", x, x.bar(0, set, true), "!a " + want);
        }
    }

    @Says(in = "Promise 23", text = "a TERM with an empty SET has 0 runs.")
    static void printAnEmptySet(Check check) {
        DemandTerms x = Check.with(2, 2, 0);
        x.bar(0, 0, false);
        check.duePrint("alone", x, 0, "a ");
        x.bar(2, 1, false);
        check.duePrint("of a name without versions", x, 1, "c ");
        x.needs(0, 0, 1, 1, 0);
        x.needs(0, 1, 1, 1, 1);
        x.derive(0, 0);
        x.derive(0, 1);
        x.learn(2, 3, 1);
        check.duePrint("before another one", x, 4, "a ; !b 0");
        x.needs(1, 0, 0, 1, 0);
        x.needs(1, 1, 0, 1, 1);
        x.derive(1, 0);
        x.derive(1, 1);
        x.learn(5, 6, 0);
        check.duePrint("behind another one", x, 7, "!a 0; b ");
    }

    @Says(in = "Promise 24", text = "NONE if there is none such.")
    static void atNoSign(Check check) {
        DemandTerms x = Check.with(48);
        for (int wrong : Check.outside(0)) {
            check.due("nothing printed, at(" + wrong + ")", x.at(wrong), NONE);
        }
        x.bar(0, 0x5555_5555_5555L, false);
        x.bar(0, 14, true);
        check.due("long", x.print(0), 68);
        check.due("the last sign", x.at(67), '6');
        check.due("behind it", x.at(68), NONE);
        check.due("short", x.print(1), 6);
        check.due("the first sign", x.at(0), '!');
        check.due("the last sign", x.at(5), '3');
        for (int wrong : Check.outside(6)) {
            check.due("at(" + wrong + ")", x.at(wrong), NONE);
        }
        for (int i = 6; i < 68; i++) {
            check.due("nothing is left of the long one", x.at(i), NONE);
        }
    }
}
