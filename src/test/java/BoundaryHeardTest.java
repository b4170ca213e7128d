/** The boundaries of promises 20 to 22: what is heard, and whose hand it was. */
public final class BoundaryHeardTest {
    private static final Check check = new Check();

    public static void main(String[] args) throws IllegalAccessException {
        Boundaries.run(BoundaryHeardTest.class, check);
    }

    // ---- promise 20: hear

    @Says({"in CALL t (0 .. 9;", "BAD: t, o, clapped (0, 1);"})
    static void promise20_tBelow0OrAbove9IsBad() {
        LastBows x = new LastBows();
        check.due("t -1", x.hear(-1, 0, 0), LastBows.BAD);
        check.due("t 0", x.hear(0, 0, 0), 1);
        check.due("t 9", x.hear(9, 0, 0), 2);
        check.due("t 10", x.hear(10, 0, 0), LastBows.BAD);
        for (int far : Check.FAR) {
            check.due("t " + far, x.hear(far, 0, 0), LastBows.BAD);
        }
    }

    @Says({"where others CLAPPED always (o = 1), or never (0)", "BAD: t, o, clapped (0, 1);"})
    static void promise20_oOtherThan0And1IsBad() {
        LastBows x = new LastBows();
        check.due("o -1", x.hear(0, -1, 0), LastBows.BAD);
        check.due("o 0", x.hear(0, 0, 0), 1);
        check.due("o 1", x.hear(0, 1, 0), 2);
        check.due("o 2", x.hear(0, 2, 0), LastBows.BAD);
        for (int far : Check.FAR) {
            check.due("o " + far, x.hear(0, far, 0), LastBows.BAD);
        }
    }

    @Says({"CLAPPED (1), or not (0)", "BAD: t, o, clapped (0, 1);"})
    static void promise20_clappedOtherThan0And1IsBad() {
        LastBows x = new LastBows();
        check.due("clapped -1", x.hear(0, 0, -1), LastBows.BAD);
        check.due("clapped 0", x.hear(0, 0, 0), 1);
        check.due("clapped 1", x.hear(0, 0, 1), 2);
        check.due("clapped 2", x.hear(0, 0, 2), LastBows.BAD);
        for (int far : Check.FAR) {
            check.due("clapped " + far, x.hear(0, 0, far), LastBows.BAD);
        }
    }

    @Says({"6 such at most", "HEARD: how many there are."})
    static void promise20_theSixthIsHeard() {
        LastBows x = heard(5);
        check.due("the sixth", x.hear(0, 0, 1), 6);
        check.due("it counts", x.whose(0), 16);
    }

    @Says({"6 such at most", "FULL: 6."})
    static void promise20_theSeventhIsFull() {
        LastBows x = heard(6);
        check.due("the seventh", x.hear(0, 0, 1), LastBows.FULL);
        check.due("heard", x.about(8), 6);
        check.due("it does not count", x.whose(0), 36);
    }

    @Says({"Of several what is told first.", "BAD: t, o, clapped (0, 1); FULL: 6."})
    static void promise20_badIsAheadOfFull() {
        LastBows x = heard(6);
        check.due("t", x.hear(10, 0, 0), LastBows.BAD);
        check.due("o", x.hear(0, 2, 0), LastBows.BAD);
        check.due("clapped", x.hear(0, 0, 2), LastBows.BAD);
    }

    @Says("What is refused changes nothing.")
    static void promise20_whatIsRefusedChangesNothing() {
        Twins.changeNothing(check, x -> {
            check.due("t", x.hear(10, 0, 1), LastBows.BAD);
            check.due("o", x.hear(0, -1, 1), LastBows.BAD);
            check.due("clapped", x.hear(0, 0, 2), LastBows.BAD);
        });
        Twins.changeNothing(check, livedAndFull(), livedAndFull(),
            x -> check.due("the seventh", x.hear(0, 0, 1), LastBows.FULL));
    }

    @Says("HEARD: how many there are.")
    static void promise20_theSameTwiceIsTwo() {
        LastBows x = new LastBows();
        check.due("once", x.hear(0, 0, 1), 1);
        check.due("twice", x.hear(0, 0, 1), 2);
        check.due("whose", x.whose(0), 16);
    }

    // ---- promise 21: unhear

    @Says("Nothing is HEARD: how much there was.")
    static void promise21_nothingWas0() {
        LastBows x = new LastBows();
        check.due("unhear()", x.unhear(), 0);
        check.due("heard", x.about(8), 0);
    }

    @Says("Nothing is HEARD: how much there was.")
    static void promise21_allSixAreGone() {
        LastBows x = heard(6);
        check.due("unhear()", x.unhear(), 6);
        check.due("heard", x.about(8), 0);
        check.due("unhear() again", x.unhear(), 0);
    }

    @Says({"Nothing is HEARD: how much there was.", "6 such at most"})
    static void promise21_behindItSixCanBeHeardAgain() {
        LastBows x = heard(6);
        x.unhear();
        for (int i = 1; i <= 6; i++) {
            check.due("hear", x.hear(0, 0, 1), i);
        }
        check.due("the seventh", x.hear(0, 0, 1), LastBows.FULL);
        check.due("whose", x.whose(0), 16);
    }

    @Says("Nothing is HEARD: how much there was.")
    static void promise21_whatWasHeardNoLongerCounts() {
        LastBows x = new LastBows();
        x.hear(0, 0, 1);
        x.hear(0, 0, 0);
        check.due("it can not be", x.whose(0), 0);
        x.unhear();
        check.due("all", x.whose(0), 36);
        x.hear(0, 1, 1);
        check.due("what is heard anew", x.whose(0), 7);
    }

    // ---- promise 22: whose

    @Says("WHOSE: how many (what = 0), the first one (1); NONE. BAD.")
    static void promise22_whatBelow0OrAbove1IsBad() {
        LastBows x = new LastBows();
        check.due("whose(-1)", x.whose(-1), LastBows.BAD);
        check.due("whose(2)", x.whose(2), LastBows.BAD);
        for (int far : Check.FAR) {
            check.due("whose(" + far + ")", x.whose(far), LastBows.BAD);
        }
        x.hear(9, 0, 1);
        check.due("bad where there is none, too", x.whose(2), LastBows.BAD);
    }

    @Says("how many (36 there are)")
    static void promise22_whereNothingIsHeardItIsAll36() {
        whose(36, 1);
    }

    @Says({"the first one (10 times KIND and FONDNESS); NONE.", "WHOSE: how many (what = 0), the first one (1); NONE."})
    static void promise22_whereNobodyFitsItIs0AndNone() {
        whose(0, LastBows.NONE, 0, 0, 1, 0, 0, 0);
        whose(0, LastBows.NONE, 0, 1, 1, 0, 1, 0);
        whose(0, LastBows.NONE, 9, 1, 1);
    }

    @Says({"the first one (10 times KIND and FONDNESS)", "FONDNESS and KIND by which all that is HEARD is so"})
    static void promise22_theFirstIsOfTheLeastKind() {
        // A plain one of 4 and a lonely one of 2: the kind is ahead of the fondness.
        whose(2, 4, 1, 0, 1, 2, 0, 0);
        // All lonely ones, and no plain one.
        whose(9, 21, 0, 0, 1, 0, 1, 0);
    }

    @Says({"PLAIN: it CLAPS, if its VIGOUR is 3 or more.", "in CALL t (0 .. 9; the player always came, nobody gave FLOWERS)"})
    static void promise22_aPlainOneClapsTill2AreLeft() {
        whose(7, 3, 0, 1, 1);
        whose(1, 3, 0, 1, 1, 1, 1, 0);
        whose(1, 9, 6, 1, 1);
        whose(0, LastBows.NONE, 7, 1, 1);
        // With 2 left it stays at 2, and never claps again.
        whose(1, 3, 0, 1, 1, 1, 1, 0, 9, 1, 0);
    }

    @Says({"LONELY: of VIGOUR 1 or more, if no PLAIN one and no USHER CLAPS.",
        "where others CLAPPED always (o = 1), or never (0)"})
    static void promise22_aLonelyOneClapsTillNothingIsLeft() {
        whose(1, 21, 0, 0, 1, 0, 1, 0, 1, 0, 0);
        whose(1, 29, 8, 0, 1);
        whose(0, LastBows.NONE, 9, 0, 1);
        whose(36, 1, 9, 0, 0);
    }

    @Says("where others CLAPPED always (o = 1), or never (0)")
    static void promise22_aLonelyOneNeverClapsWhereOthersDo() {
        // Only plain ones clap with others; so none of those that do not clap at 0 is ruled out but them.
        whose(29, 1, 0, 1, 0);
        whose(20, 1, 0, 0, 0);
    }

    @Says({"an unknown HAND with nobody beside it", "USHER: of VIGOUR 1 or more, if a HAND beside it CLAPS",
        "a HISSER is not HUSHED, and never CLAPS"})
    static void promise22_anUsherAndAHisserNeverClap() {
        // Plain ones of 1 and 2, all ushers, all hissers.
        whose(20, 1, 0, 0, 0, 0, 1, 0);
        // Of those that clap with others none is an usher or a hisser: plain ones of 3 to 9.
        whose(7, 3, 0, 1, 1);
    }

    @Says({"In what follows nothing is changed.", "What is refused changes nothing."})
    static void promise22_nothingIsChanged() {
        Twins.changeNothing(check, x -> {
            check.due("whose(0)", x.whose(0), 12);
            check.due("whose(1)", x.whose(1), 3);
            check.due("whose(2)", x.whose(2), LastBows.BAD);
        });
    }

    /** So many things heard that hold for every hand. */
    private static LastBows heard(int things) {
        LastBows x = new LastBows();
        for (int i = 0; i < things; i++) {
            x.hear(9, i % 2, 0);
        }
        return x;
    }

    private static LastBows livedAndFull() {
        LastBows x = Twins.lived();
        while (x.about(8) < 6) {
            x.hear(9, 1, 0);
        }
        return x;
    }

    private static void whose(int howMany, int first, int... heard) {
        LastBows x = new LastBows();
        for (int i = 0; i + 2 < heard.length; i += 3) {
            x.hear(heard[i], heard[i + 1], heard[i + 2]);
        }
        String told = java.util.Arrays.toString(heard);
        check.due("how many of " + told, x.whose(0), howMany);
        check.due("the first of " + told, x.whose(1), first);
    }
}
