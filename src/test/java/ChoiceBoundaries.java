/** Boundary cases of the choice and of what incompatibilities force: promises 16 to 22. */
final class ChoiceBoundaries {
    private static final int NONE = DemandTerms.NONE;
    private static final long ALL = (1L << 48) - 1;

    private ChoiceBoundaries() {
    }

    private static void dueChosen(Check check, String what, DemandTerms x, int name, int wanted, long set) {
        check.due(what + ": chosen(" + name + ", 0)", x.chosen(name, 0), name);
        check.due(what + ": chosen(" + name + ", 1)", x.chosen(name, 1), wanted);
        check.due(what + ": chosen(" + name + ", 2)", x.chosen(name, 2), Long.bitCount(set));
        check.due(what + ": chosenSet(" + name + ")", x.chosenSet(name), set);
    }

    /** Number 0 is "a 1; !b 0-1", both names with versions 0 .. 3. */
    private static DemandTerms withOneClash() {
        DemandTerms x = Check.with(4, 4);
        x.needs(0, 1, 1, 3, 0);
        x.derive(0, 1);
        return x;
    }

    private static void choose(DemandTerms x, int name, long set, boolean wanted) {
        x.choose(x.term(name, set, wanted));
    }

    @Says(in = "Terms", text = "THE CHOICE is a TERM of each name, FULL at first.")
    static void fullAtFirst(Check check) {
        DemandTerms x = new DemandTerms();
        for (int name = 0; name < 16; name++) {
            x.versions(name * 3);
            dueChosen(check, "of " + name * 3 + " versions", x, name, 0, 0);
        }
        choose(x, 15, -1L, true);
        dueChosen(check, "FULL with any version is any version", x, 15, 1, (1L << 45) - 1);
        DemandTerms y = Check.with(2);
        choose(y, 0, 1, true);
        y.versions(2);
        dueChosen(check, "a name that comes later", y, 1, 0, 0);
        dueChosen(check, "the name before it", y, 0, 1, 1);
    }

    @Says(in = "Terms", text = "A TERM of an incompatibility is KEPT if it is true wherever the choice's is (that isn't EMPTY), BROKEN if never; else OPEN.")
    static void keptBrokenOpen(Check check) {
        DemandTerms x = Check.with(48);
        x.bar(0, 1L << 47, false);
        x.bar(0, 1L << 47, true);
        x.bar(0, -1L, false);
        x.bar(0, -1L, true);
        x.bar(0, 0, false);
        dueStates(check, "FULL", x, 2, 2, 2, 2, -1);
        choose(x, 0, -1L, true);
        dueStates(check, "any version", x, 2, 2, 1, -1, -1);
        choose(x, 0, 3L << 46, true);
        dueStates(check, "46 or 47", x, 2, 2, 1, -1, -1);
        choose(x, 0, 1L << 47, true);
        dueStates(check, "47", x, 1, -1, 1, -1, -1);
        choose(x, 0, 0, true);
        dueStates(check, "EMPTY", x, -1, -1, -1, -1, -1);
        x.forget();
        choose(x, 0, 1L << 47, false);
        dueStates(check, "NOT 47", x, -1, 1, 2, 2, -1);
        choose(x, 0, -1L, false);
        dueStates(check, "none", x, -1, 1, -1, 1, -1);
    }

    private static void dueStates(Check check, String choice, DemandTerms x, int... states) {
        for (int k = 0; k < states.length; k++) {
            check.due("the choice " + choice + ": state(" + k + ")", x.state(k), states[k]);
        }
    }

    @Says(in = "Terms", text = "A TERM of an incompatibility is KEPT if it is true wherever the choice's is (that isn't EMPTY), BROKEN if never; else OPEN.")
    static void anEmptyChoice(Check check) {
        DemandTerms x = withOneClash();
        choose(x, 0, 2, true);
        choose(x, 1, 12, true);
        check.due("both KEPT", x.state(0), 1);
        choose(x, 1, 0, true);
        check.due("EMPTY of one name", x.state(0), -1);
        check.due("nothing is forced", x.forced(0), NONE);
        check.due("no conflict", x.spread(), NONE);
        choose(x, 0, 0, true);
        check.due("EMPTY of both names", x.state(0), -1);
    }

    @Says(in = "Terms", text = "An incompatibility is: 1 KEPT, if all its TERMS are (also if it has none)")
    static void keptWithoutTerms(Check check) {
        DemandTerms x = Check.with(2, 0);
        x.bar(0, 0, true);
        x.bar(1, 0, true);
        dueStates(check, "FULL", x, 1, 1);
        choose(x, 0, 1, true);
        dueStates(check, "a version", x, 1, 1);
        choose(x, 0, 0, true);
        choose(x, 1, 0, true);
        dueStates(check, "EMPTY", x, 1, 1);
    }

    @Says(in = "Terms", text = "An incompatibility is: 1 KEPT, if all its TERMS are (also if it has none)")
    static void keptWithSixteenTerms(Check check) {
        DemandTerms x = Check.with(2, 2, 2, 2, 2, 2, 2, 2, 2, 2, 2, 2, 2, 2, 2, 2);
        int last = x.bar(0, 1, false);
        for (int name = 1; name < 16; name++) {
            x.needs(name, 0, name - 1, 2, 0);
            x.derive(name, 0);
            last = x.learn(last, x.count() - 1, name - 1);
        }
        for (int name = 0; name < 16; name++) {
            check.due("so many OPEN: " + (16 - name), x.state(last), name == 15 ? 2 : 0);
            check.due("forced", x.forced(last), name == 15 ? 15 : NONE);
            choose(x, name, 1, true);
        }
        check.due("all KEPT", x.state(last), 1);
        check.due("nothing is forced", x.forced(last), NONE);
    }

    @Says(in = "Terms", text = "- 1 if one is BROKEN")
    static void brokenByOne(Check check) {
        DemandTerms x = withOneClash();
        choose(x, 0, 2, false);
        check.due("the first BROKEN, the other one OPEN", x.state(0), -1);
        choose(x, 1, 12, true);
        check.due("the first BROKEN, the other one KEPT", x.state(0), -1);
        x.forget();
        choose(x, 1, 1, true);
        check.due("the second BROKEN, the other one OPEN", x.state(0), -1);
        choose(x, 0, 2, true);
        check.due("the second BROKEN, the other one KEPT", x.state(0), -1);
        choose(x, 0, 0, true);
        check.due("both BROKEN", x.state(0), -1);
    }

    @Says(in = "Terms", text = "2 if one is OPEN, all others KEPT: it forces the contrary of that TERM")
    static void oneIsOpen(Check check) {
        DemandTerms x = withOneClash();
        choose(x, 0, 2, true);
        check.due("the second OPEN", x.state(0), 2);
        check.due("spread", x.spread(), NONE);
        dueChosen(check, "the contrary of a NOT TERM", x, 1, 1, 3);
        check.due("it is BROKEN then", x.state(0), -1);
        x.forget();
        choose(x, 1, 12, true);
        check.due("the first OPEN", x.state(0), 2);
        check.due("spread", x.spread(), NONE);
        dueChosen(check, "the contrary of a WANTED TERM", x, 0, 0, 2);
        check.due("it is BROKEN then", x.state(0), -1);
    }

    @Says(in = "Terms", text = "2 if one is OPEN, all others KEPT: it forces the contrary of that TERM")
    static void theContraryAtItsEdges(Check check) {
        DemandTerms x = Check.with(48, 48, 48);
        x.bar(0, -1L, false);
        x.bar(1, -1L, true);
        x.bar(2, 1L << 47, false);
        x.bar(2, 1L << 47 | 1, true);
        check.due("spread", x.spread(), NONE);
        dueChosen(check, "not any version: none", x, 0, 0, ALL);
        dueChosen(check, "not none: any version", x, 1, 1, ALL);
        dueChosen(check, "0 or 47, not 47", x, 2, 1, 1);
    }

    @Says(in = "Terms", text = "else 0.")
    static void twoAreOpen(Check check) {
        DemandTerms x = withOneClash();
        check.due("two OPEN", x.state(0), 0);
        choose(x, 0, 3, true);
        choose(x, 1, 6, true);
        check.due("still two OPEN", x.state(0), 0);
        check.due("forced", x.forced(0), NONE);
        check.due("spread", x.spread(), NONE);
        dueChosen(check, "spread forced nothing", x, 0, 1, 3);
        dueChosen(check, "spread forced nothing", x, 1, 1, 6);
    }

    @Says(in = "Promise 16", text = "The choice's TERM of a TERM's name becomes BOTH")
    static void chooseEmptyAndFull(Check check) {
        DemandTerms x = Check.with(48, 48);
        choose(x, 0, 0, false);
        dueChosen(check, "FULL and FULL", x, 0, 0, 0);
        choose(x, 0, 1, false);
        choose(x, 0, 1L << 47, false);
        dueChosen(check, "NOT and NOT", x, 0, 0, 1 | 1L << 47);
        choose(x, 0, -1L, true);
        dueChosen(check, "NOT and any version", x, 0, 1, ALL - 1 & ~(1L << 47));
        choose(x, 0, 0, false);
        dueChosen(check, "FULL changes nothing", x, 0, 1, ALL - 1 & ~(1L << 47));
        choose(x, 0, -1L, false);
        dueChosen(check, "none of its versions", x, 0, 1, 0);
        choose(x, 0, 0, false);
        choose(x, 0, -1L, true);
        dueChosen(check, "EMPTY stays so", x, 0, 1, 0);
        dueChosen(check, "the other name", x, 1, 0, 0);
    }

    @Says(in = "Promise 16", text = "false if there is none such.")
    static void chooseNone(Check check) {
        DemandTerms x = withOneClash();
        choose(x, 1, 3, true);
        String before = Check.look(x);
        for (int wrong : Check.outside(1)) {
            check.due("choose(" + wrong + ")", x.choose(wrong), false);
        }
        check.due("a refused one leaves all as it was", Check.look(x), before);
        check.due("one that changes nothing isn't refused", x.choose(0), true);
        x.term(0, 0, true);
        check.due("an EMPTY one isn't refused", x.choose(1), true);
    }

    @Says(in = "Promise 17", text = "The choice is FULL of each name again.")
    static void forgetAll(Check check) {
        DemandTerms x = new DemandTerms();
        x.forget();
        for (int name = 0; name < 16; name++) {
            x.versions(name == 0 ? 0 : 48);
            choose(x, name, name % 3, name % 2 == 0);
        }
        dueChosen(check, "EMPTY", x, 0, 1, 0);
        dueChosen(check, "NOT", x, 15, 0, 0);
        x.bar(1, 5, true);
        x.spread();
        x.forget();
        for (int name = 0; name < 16; name++) {
            dueChosen(check, "forgotten", x, name, 0, 0);
        }
        check.due("incompatibilities stay", x.count(), 1);
        check.due("TERMS stay", x.about(15, 0), 15);
        x.forget();
        dueChosen(check, "again", x, 15, 0, 0);
    }

    @Says(in = "Promise 18", text = "1, - 1, 2 or 0; - 2 if there is none such.")
    static void stateOfNone(Check check) {
        DemandTerms x = Check.with(3);
        check.due("before there is one", x.state(0), -2);
        x.bar(0, 0, true);
        x.bar(0, 0, false);
        for (int wrong : Check.outside(2)) {
            check.due("state(" + wrong + ")", x.state(wrong), -2);
        }
        dueStates(check, "FULL", x, 1, -1);
        DemandTerms y = Check.with(3);
        for (int k = 0; k < 300; k++) {
            y.bar(0, 1, false);
        }
        check.due("the last one", y.state(299), 2);
        check.due("no more", y.state(300), -2);
    }

    @Says(in = "Promise 19", text = "What one whose state is 2 forces: the number of its OPEN TERM; else NONE.")
    static void forcedOfNone(Check check) {
        DemandTerms x = Check.with(3, 3, 3);
        check.due("before there is one", x.forced(0), NONE);
        x.bar(2, 1, false);
        x.bar(0, 0, true);
        x.bar(0, 0, false);
        x.needs(1, 0, 2, 1, 0);
        x.derive(1, 0);
        for (int wrong : Check.outside(4)) {
            check.due("forced(" + wrong + ")", x.forced(wrong), NONE);
        }
        check.due("state 2: its number isn't its name", x.forced(0), 0);
        check.due("state 1", x.forced(1), NONE);
        check.due("state -1", x.forced(2), NONE);
        check.due("state 0", x.forced(3), NONE);
        choose(x, 1, 1, true);
        check.due("the last one OPEN", x.forced(3), 1);
        x.forget();
        choose(x, 2, 6, true);
        check.due("the first one OPEN", x.forced(3), 0);
        dueChosen(check, "asking forces nothing", x, 1, 0, 0);
    }

    @Says(in = "Promise 20", text = "NONE if none forces any more.")
    static void nothingForces(Check check) {
        DemandTerms x = Check.with(3, 3);
        check.due("no incompatibilities", x.spread(), NONE);
        x.bar(0, 0, false);
        check.due("only BROKEN ones", x.spread(), NONE);
        x.needs(0, 0, 1, 1, 0);
        x.derive(0, 0);
        check.due("one with two OPEN", x.spread(), NONE);
        dueChosen(check, "nothing was forced", x, 0, 0, 0);
        dueChosen(check, "nothing was forced", x, 1, 0, 0);
        x.bar(1, 1, false);
        check.due("one that forces, and one after it", x.spread(), NONE);
        dueChosen(check, "b", x, 1, 0, 1);
        dueChosen(check, "a, in the next round", x, 0, 0, 1);
        String before = Check.look(x);
        check.due("none forces any more", x.spread(), NONE);
        check.due("none forces any more", Check.look(x), before);
    }

    @Says(in = "Promise 20", text = "Incompatibilities that force something are gone through by number, again and again, the contrary of the OPEN TERM coming to the choice")
    static void againAndAgain(Check check) {
        DemandTerms x = new DemandTerms();
        for (int name = 0; name < 16; name++) {
            x.versions(2);
        }
        for (int name = 14; name >= 0; name--) {
            x.needs(name, 0, name + 1, 1, 0);
            x.derive(name, 0);
        }
        x.bar(0, 1, true);
        check.due("each round forces the next name", x.spread(), NONE);
        for (int name = 0; name < 16; name++) {
            dueChosen(check, "forced", x, name, 1, 1);
        }
        x.forget();
        x.bar(15, 1, false);
        check.due("the last name is barred: what a needs can't be", x.spread(), 14);
        dueChosen(check, "forced back to b", x, 1, 0, 1);
        dueChosen(check, "a stays as it was forced", x, 0, 1, 1);
    }

    @Says(in = "Promise 20", text = "until one that is gone through is KEPT: then the first in number that is")
    static void theFirstThatIsKept(Check check) {
        DemandTerms x = Check.with(2, 2, 2);
        x.bar(2, 1, false);
        x.bar(0, 1, false);
        x.bar(0, 3, false);
        x.bar(1, 1, false);
        choose(x, 0, 1, true);
        check.due("two are KEPT", x.spread(), 1);
        dueChosen(check, "one before it forces", x, 2, 0, 1);
        dueChosen(check, "one behind it doesn't", x, 1, 0, 0);
        check.due("again", x.spread(), 1);
        x.forget();
        choose(x, 0, 2, true);
        check.due("the later one is KEPT", x.spread(), 2);
        dueChosen(check, "the one that is KEPT changes nothing", x, 0, 1, 2);
        x.forget();
        check.due("KEPT no more", x.spread(), NONE);
    }

    @Says(in = "Promise 20", text = "until one that is gone through is KEPT: then the first in number that is")
    static void keptOnesWithoutTerms(Check check) {
        DemandTerms x = Check.with(2);
        x.bar(0, 0, true);
        x.bar(0, 1, false);
        check.due("number 0", x.spread(), 0);
        dueChosen(check, "nothing was forced", x, 0, 0, 0);
        choose(x, 0, 0, true);
        check.due("the choice EMPTY", x.spread(), 0);
        DemandTerms y = Check.with(2);
        for (int k = 0; k < 299; k++) {
            y.bar(0, 1, false);
        }
        check.due("the last of 300", y.bar(0, 0, true), 299);
        check.due("the last of 300", y.spread(), 299);
        dueChosen(check, "those before it force", y, 0, 0, 1);
    }

    @Says(in = "Promise 21", text = {"Of the choice's TERM of a name, as about (NONE if there is no such name)"})
    static void chosenOfNone(Check check) {
        DemandTerms x = Check.with(3, 3);
        for (int wrong : Check.outside(2)) {
            for (int what = 0; what < 3; what++) {
                check.due("chosen(" + wrong + ", " + what + ")", x.chosen(wrong, what), NONE);
            }
        }
        for (int what : Check.outside(3)) {
            check.due("another what: chosen(0, " + what + ")", x.chosen(0, what), NONE);
        }
        dueChosen(check, "the last name", x, 1, 0, 0);
    }

    @Says(in = "Promise 21", text = "its SET by chosenSet (0).")
    static void chosenSetOfNone(Check check) {
        DemandTerms x = Check.with(3, 3);
        choose(x, 0, 7, true);
        choose(x, 1, 7, false);
        for (int wrong : Check.outside(2)) {
            check.due("chosenSet(" + wrong + ")", x.chosenSet(wrong), 0);
        }
    }

    @Says(in = "Promise 22", text = "As told.")
    static void chosenSetOfEmptyAndFull(Check check) {
        DemandTerms x = Check.with(48, 0);
        check.due("FULL", x.chosenSet(0), 0);
        check.due("FULL of a name without versions", x.chosenSet(1), 0);
        choose(x, 0, -1L, true);
        check.due("any version", x.chosenSet(0), ALL);
        choose(x, 0, 1L << 47, true);
        check.due("the last version", x.chosenSet(0), 1L << 47);
        choose(x, 0, 1, true);
        check.due("EMPTY", x.chosenSet(0), 0);
        x.forget();
        choose(x, 0, -1L, false);
        check.due("none", x.chosenSet(0), ALL);
        choose(x, 1, -1L, true);
        check.due("EMPTY of a name without versions", x.chosenSet(1), 0);
    }
}
