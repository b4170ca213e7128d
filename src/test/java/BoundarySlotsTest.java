/** The boundaries of promises 27 and 28: what is kept, and gone on from. */
public final class BoundarySlotsTest {
    private static final Check check = new Check();

    public static void main(String[] args) throws IllegalAccessException {
        Boundaries.run(BoundarySlotsTest.class, check);
    }

    // ---- promise 27: keep

    @Says({"SLOTS 0 .. 1 keep", "They are kept: THE NIGHT. UNKNOWN."})
    static void promise27_aSlotBelow0OrAbove1IsUnknown() {
        LastBows x = Check.house("H");
        check.due("keep(-1)", x.keep(-1), LastBows.UNKNOWN);
        check.due("keep(0)", x.keep(0), 0);
        check.due("keep(1)", x.keep(1), 0);
        check.due("keep(2)", x.keep(2), LastBows.UNKNOWN);
        for (int far : Check.FAR) {
            check.due("keep(" + far + ")", x.keep(far), LastBows.UNKNOWN);
        }
    }

    @Says("They are kept: THE NIGHT.")
    static void promise27_theNightIsTold() {
        LastBows x = Check.house("H");
        check.due("none yet", x.keep(0), 0);
        x.night();
        check.due("one", x.keep(0), 1);
        check.due("one, the other slot", x.keep(1), 1);
    }

    @Says("They are kept: THE NIGHT.")
    static void promise27_nobodyCanBeKept() {
        LastBows x = new LastBows();
        check.due("keep(0)", x.keep(0), 0);
        check.due("again(0)", x.again(0), 0);
    }

    @Says("They are kept: THE NIGHT.")
    static void promise27_whatIsKeptLaterIsWhatIsKept() {
        LastBows x = Check.house("HP1D0090");
        x.keep(0);
        x.call(0);
        x.night();
        x.keep(0);
        x.night();
        check.due("again(0)", x.again(0), 1);
        check.due("called", x.player(0, 1), 1);
    }

    @Says("(no ACTS when one goes on)")
    static void promise27_toKeepEndsNoActsAndIsNone() {
        LastBows x = Check.house("H");
        x.night();
        x.keep(0);
        check.due("acts", x.about(7), 1);
        check.due("undo()", x.undo(), 0);
    }

    @Says("What is refused changes nothing.")
    static void promise27_whatIsRefusedChangesNothing() {
        Twins.changeNothing(check, x -> {
            check.due("keep(-1)", x.keep(-1), LastBows.UNKNOWN);
            check.due("keep(2)", x.keep(2), LastBows.UNKNOWN);
        });
    }

    // ---- promise 28: again

    @Says({"SLOTS 0 .. 1 keep", "They are as they were kept: THE NIGHT. UNKNOWN; LATE: none were kept."})
    static void promise28_aSlotBelow0OrAbove1IsUnknown() {
        LastBows x = Check.house("H");
        x.keep(0);
        x.keep(1);
        check.due("again(-1)", x.again(-1), LastBows.UNKNOWN);
        check.due("again(0)", x.again(0), 0);
        check.due("again(1)", x.again(1), 0);
        check.due("again(2)", x.again(2), LastBows.UNKNOWN);
        for (int far : Check.FAR) {
            check.due("again(" + far + ")", x.again(far), LastBows.UNKNOWN);
        }
    }

    @Says("LATE: none were kept.")
    static void promise28_anEmptySlotIsLate() {
        LastBows x = Check.house("H");
        check.due("again(0)", x.again(0), LastBows.LATE);
        check.due("again(1)", x.again(1), LastBows.LATE);
        x.keep(1);
        check.due("again(0), the other kept", x.again(0), LastBows.LATE);
        LastBows y = Check.house("H");
        y.keep(0);
        check.due("again(1), the other kept", y.again(1), LastBows.LATE);
    }

    @Says("LATE: none were kept.")
    static void promise28_behindHouseItIsLate() {
        LastBows x = Check.house("H");
        x.keep(0);
        x.house();
        check.due("again(0)", x.again(0), LastBows.LATE);
        x.keep(0);
        check.due("kept anew", x.again(0), 0);
    }

    @Says({"They are as they were kept: THE NIGHT.", "What is refused changes nothing."})
    static void promise28_aRefusedHouseLeavesTheSlots() {
        LastBows x = Check.house("H");
        x.night();
        x.keep(0);
        x.write('?');
        check.due("house()", x.house(), LastBows.LATE);
        check.due("again(0)", x.again(0), 1);
    }

    @Says("SLOTS 0 .. 1 keep SEATS, VIGOUR, how often PLAYERS were CALLED, who is DEAD, THE NIGHT")
    static void promise28_seatsOfTheFirstAndTheLastHandAreAsKept() {
        LastBows x = Check.house("HP1D0010D1010D2010D3010D4010D5010D6010");
        x.keep(0);
        x.seat(0, 9);
        x.seat(6, 8);
        x.again(0);
        check.due("the first", x.hand(0, 0), 0);
        check.due("the last", x.hand(6, 0), 6);
    }

    @Says("SLOTS 0 .. 1 keep SEATS, VIGOUR, how often PLAYERS were CALLED, who is DEAD, THE NIGHT")
    static void promise28_vigourFrom0To9IsAsKept() {
        LastBows x = Check.house("HP1P1D0012D9190");
        x.call(0);
        x.keep(1);
        x.flowers(0);
        x.call(1);
        x.again(1);
        check.due("the least", x.hand(0, 4), 0);
        check.due("the most", x.hand(1, 4), 9);
    }

    @Says("SLOTS 0 .. 1 keep SEATS, VIGOUR, how often PLAYERS were CALLED, who is DEAD, THE NIGHT")
    static void promise28_howOftenTheyWereCalledIsAsKept() {
        LastBows x = Check.house("HP1P1P1D0090D9290");
        x.call(2);
        x.keep(0);
        x.call(0);
        x.call(2);
        x.again(0);
        check.due("the first", x.player(0, 1), 0);
        check.due("the last", x.player(2, 1), 1);
    }

    @Says("SLOTS 0 .. 1 keep SEATS, VIGOUR, how often PLAYERS were CALLED, who is DEAD, THE NIGHT")
    static void promise28_whoIsDeadIsAsKept() {
        LastBows x = Check.house("HP7P7P7");
        x.call(2);
        x.keep(0);
        x.call(0);
        x.call(1);
        x.again(0);
        check.due("dead", x.about(3), 4);
    }

    @Says({"SLOTS 0 .. 1 keep SEATS, VIGOUR, how often PLAYERS were CALLED, who is DEAD, THE NIGHT",
        "They are as they were kept: THE NIGHT."})
    static void promise28_theNightIsAsKept() {
        LastBows x = Check.house("H");
        x.keep(0);
        x.night();
        x.keep(1);
        x.night();
        check.due("again(1)", x.again(1), 1);
        check.due("THE NIGHT", x.about(2), 1);
        check.due("again(0)", x.again(0), 0);
        check.due("THE NIGHT of the other", x.about(2), 0);
    }

    @Says("(no ACTS when one goes on)")
    static void promise28_noActsAreLeft() {
        LastBows x = Check.house("H");
        x.night();
        x.keep(0);
        x.night();
        x.again(0);
        check.due("acts", x.about(7), 0);
        check.due("undo()", x.undo(), LastBows.LATE);
        x.night();
        check.due("undo() of one behind it", x.undo(), 0);
        check.due("THE NIGHT", x.about(2), 1);
    }

    @Says("(no ACTS when one goes on)")
    static void promise28_noActsAreLeftOfAFullRow() {
        LastBows x = Check.house("H");
        x.keep(0);
        for (int act = 0; act < 20; act++) {
            x.night();
        }
        x.again(0);
        check.due("acts", x.about(7), 0);
        for (int act = 1; act <= 15; act++) {
            x.night();
        }
        for (int left = 13; left >= 0; left--) {
            check.due("undo()", x.undo(), left);
        }
        check.due("undo()", x.undo(), LastBows.LATE);
        check.due("THE NIGHT", x.about(2), 1);
    }

    @Says("They are as they were kept: THE NIGHT.")
    static void promise28_oneGoesOnFromItAgainAndAgain() {
        LastBows x = Check.house("HP1D0090");
        x.keep(0);
        for (int times = 0; times < 3; times++) {
            x.call(0);
            x.night();
            check.due("again(0)", x.again(0), 0);
            check.due("vigour", x.about(5), 9);
            check.due("called", x.player(0, 1), 0);
        }
    }

    @Says("SLOTS 0 .. 1 keep SEATS, VIGOUR, how often PLAYERS were CALLED, who is DEAD, THE NIGHT")
    static void promise28_textHeardAndSeedAreNotKept() {
        LastBows x = Check.house("H");
        x.keep(0);
        x.write('P');
        x.hear(0, 0, 1);
        x.seed(6);
        x.again(0);
        check.due("bytes", x.about(9), 2);
        check.due("heard", x.about(8), 1);
        check.due("seed", x.seed(0), 6);
    }

    @Says("What is refused changes nothing.")
    static void promise28_whatIsRefusedChangesNothing() {
        Twins.changeNothing(check, x -> {
            check.due("again(-1)", x.again(-1), LastBows.UNKNOWN);
            check.due("again(2)", x.again(2), LastBows.UNKNOWN);
        });
        LastBows x = Check.house("HP1D0090");
        x.call(0);
        check.due("again(0)", x.again(0), LastBows.LATE);
        check.due("acts", x.about(7), 1);
        check.due("vigour", x.about(5), 8);
        check.due("undo()", x.undo(), 0);
    }
}
