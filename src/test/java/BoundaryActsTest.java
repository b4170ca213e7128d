/** The boundaries of promises 9 to 13: calls, flowers, seats changed, nights, and what is undone. */
public final class BoundaryActsTest {
    private static final Check check = new Check();

    public static void main(String[] args) throws IllegalAccessException {
        Boundaries.run(BoundaryActsTest.class, check);
    }

    // ---- promise 9: call

    @Says("UNKNOWN; LATE: he is DEAD.")
    static void promise09_aPlayerNotToldIsUnknown() {
        LastBows x = Check.house("HP1P1D0090D5190");
        check.due("call(1)", x.call(1), 1);
        check.due("call(2)", x.call(2), LastBows.UNKNOWN);
        check.due("call(-1)", x.call(-1), LastBows.UNKNOWN);
        for (int far : Check.FAR) {
            check.due("call(" + far + ")", x.call(far), LastBows.UNKNOWN);
        }
        LastBows three = Check.house("HP1P1P1");
        check.due("call(2) of three", three.call(2), 0);
        check.due("call(3) of three", three.call(3), LastBows.UNKNOWN);
    }

    @Says("UNKNOWN; LATE: he is DEAD.")
    static void promise09_aDeadOneIsLate() {
        LastBows x = Check.house("HP1D0020");
        check.due("call(0)", x.call(0), 0);
        check.due("call(0) again", x.call(0), LastBows.LATE);
        x.flowers(0);
        check.due("call(0) when it would be loud enough", x.call(0), LastBows.LATE);
    }

    @Says("if it is as LOUD for him as he needs, or more, he comes")
    static void promise09_justAsLoudAsHeNeedsHeComes() {
        comes("HP1D0030", 1, true);
        comes("HP2D0030D2030", 2, true);
        comes("HP7D0030D1030D2030D3030D4030D5030D6030", 7, true);
    }

    @Says("if it is as LOUD for him as he needs, or more, he comes")
    static void promise09_louderThanHeNeedsHeComes() {
        comes("HP1D0030D2030", 2, true);
        comes("HP1D0030D1030D2030D3030D4030D5030D6030", 7, true);
    }

    @Says("else he is DEAD.")
    static void promise09_oneLessLoudThanHeNeedsHeIsDead() {
        comes("HP1", 0, false);
        comes("HP2D0030", 1, false);
        comes("HP7D0030D1030D2030D3030D4030D5030", 6, false);
    }

    @Says("he was CALLED once more, and each HAND that CLAPPED has 1 less VIGOUR")
    static void promise09_whoClappedHas1LessOthersHaveNot() {
        LastBows x = Check.house("HP1P1D0030D1011D3092D5130D7033");
        check.due("call(0)", x.call(0), 2);
        check.due("plain", x.hand(0, 4), 2);
        check.due("usher, to 0", x.hand(1, 4), 0);
        check.due("lonely", x.hand(2, 4), 9);
        check.due("another's", x.hand(3, 4), 3);
        check.due("hisser", x.hand(4, 4), 3);
    }

    @Says({"each HAND that CLAPPED has 1 less VIGOUR", "HANDS 0, 1, .. (7 at most)"})
    static void promise09_allSevenHandsHaveLess() {
        LastBows x = Check.house("HP7D0030D1030D2030D3030D4030D5030D6030");
        check.due("call(0)", x.call(0), 7);
        check.due("the first", x.hand(0, 4), 2);
        check.due("the last", x.hand(6, 4), 2);
    }

    @Says("else he is DEAD.")
    static void promise09_whoClappedInVainHasNoLess() {
        LastBows x = Check.house("HP2D0030");
        check.due("call(0)", x.call(0), 1);
        check.due("vigour", x.hand(0, 4), 3);
        check.due("called", x.player(0, 1), 0);
        check.due("the act of it", x.about(7), 1);
    }

    @Says("What is refused changes nothing.")
    static void promise09_whatIsRefusedChangesNothing() {
        Twins.changeNothing(check, x -> {
            check.due("unknown", x.call(3), LastBows.UNKNOWN);
            check.due("unknown", x.call(-1), LastBows.UNKNOWN);
            check.due("dead", x.call(1), LastBows.LATE);
        });
    }

    // ---- promise 10: flowers

    @Says("FLOWERS: how LOUD it is for him then. UNKNOWN.")
    static void promise10_aPlayerNotToldIsUnknown() {
        LastBows x = Check.house("HP1P1D0090D5190");
        check.due("flowers(1)", x.flowers(1), 1);
        check.due("flowers(2)", x.flowers(2), LastBows.UNKNOWN);
        check.due("flowers(-1)", x.flowers(-1), LastBows.UNKNOWN);
        for (int far : Check.FAR) {
            check.due("flowers(" + far + ")", x.flowers(far), LastBows.UNKNOWN);
        }
        LastBows three = Check.house("HP1P1P1");
        check.due("flowers(2) of three", three.flowers(2), 0);
        check.due("flowers(3) of three", three.flowers(3), LastBows.UNKNOWN);
    }

    @Says("each HAND that is fond of a PLAYER has 1 more VIGOUR (9 at most)")
    static void promise10_vigourIs9AtMost() {
        LastBows x = Check.house("HP1D0080D2090");
        x.flowers(0);
        check.due("8 and 1", x.hand(0, 4), 9);
        check.due("9 stays", x.hand(1, 4), 9);
        x.flowers(0);
        check.due("9 and 1", x.hand(0, 4), 9);
    }

    @Says("each HAND that is fond of a PLAYER has 1 more VIGOUR (9 at most)")
    static void promise10_from0VigourTo1() {
        LastBows x = Check.house("HP1D0012");
        x.call(0);
        check.due("loud", x.flowers(0), 1);
        check.due("vigour", x.hand(0, 4), 1);
    }

    @Says("each HAND that is fond of a PLAYER has 1 more VIGOUR (9 at most)")
    static void promise10_overItsFondnessToo() {
        LastBows x = Check.house("HP1D0010");
        x.flowers(0);
        check.due("vigour", x.hand(0, 4), 2);
    }

    @Says("each HAND that is fond of a PLAYER has 1 more VIGOUR (9 at most)")
    static void promise10_eachKindHasMoreAnothersHandsHaveNot() {
        LastBows x = Check.house("HP1P1D0010D2011D4012D6013D8110");
        x.flowers(0);
        for (int hand = 0; hand < 4; hand++) {
            check.due("his", x.hand(hand, 4), 2);
        }
        check.due("another's", x.hand(4, 4), 1);
    }

    @Says({"each HAND that is fond of a PLAYER has 1 more VIGOUR (9 at most)", "HANDS 0, 1, .. (7 at most)"})
    static void promise10_allSevenHandsHaveMore() {
        LastBows x = Check.house("HP1D0020D1020D2020D3020D4020D5020D6020");
        check.due("loud", x.flowers(0), 7);
        check.due("the first", x.hand(0, 4), 3);
        check.due("the last", x.hand(6, 4), 3);
    }

    @Says("FLOWERS: how LOUD it is for him then.")
    static void promise10_itIsToldHowLoudItIsThen() {
        LastBows x = Check.house("HP1P1D0020D5190");
        check.due("before", x.player(0, 3), 0);
        check.due("from 2 to 3", x.flowers(0), 1);
        check.due("where nobody is fond", Check.house("HP1P1D5190").flowers(0), 0);
    }

    @Says("FLOWERS: how LOUD it is for him then. UNKNOWN.")
    static void promise10_aDeadOneHasFlowersToo() {
        LastBows x = Check.house("HP7D0020");
        x.call(0);
        check.due("flowers(0)", x.flowers(0), 1);
        check.due("dead", x.player(0, 4), 1);
        check.due("acts", x.about(7), 2);
    }

    @Says("What is refused changes nothing.")
    static void promise10_whatIsRefusedChangesNothing() {
        Twins.changeNothing(check, x -> {
            check.due("unknown", x.flowers(3), LastBows.UNKNOWN);
            check.due("unknown", x.flowers(-1), LastBows.UNKNOWN);
        });
    }

    // ---- promise 11: seat

    @Says("UNKNOWN: hand, seat;")
    static void promise11_aHandNotToldIsUnknown() {
        LastBows x = Check.house("HP1D0010D1010");
        check.due("seat(1, 5)", x.seat(1, 5), 1);
        check.due("seat(2, 6)", x.seat(2, 6), LastBows.UNKNOWN);
        check.due("seat(-1, 6)", x.seat(-1, 6), LastBows.UNKNOWN);
        for (int far : Check.FAR) {
            check.due("seat(" + far + ", 6)", x.seat(far, 6), LastBows.UNKNOWN);
        }
        LastBows seven = Check.house("HP1D0010D1010D2010D3010D4010D5010D6010");
        check.due("seat(6, 9)", seven.seat(6, 9), 6);
        check.due("seat(7, 8)", seven.seat(7, 8), LastBows.UNKNOWN);
    }

    @Says({"UNKNOWN: hand, seat;", "SEATS are 0 ..", "9 in a row"})
    static void promise11_aSeatBelow0OrAbove9IsUnknown() {
        LastBows x = Check.house("HP1D4010");
        check.due("seat(0, -1)", x.seat(0, -1), LastBows.UNKNOWN);
        check.due("seat(0, 10)", x.seat(0, 10), LastBows.UNKNOWN);
        for (int far : Check.FAR) {
            check.due("seat(0, " + far + ")", x.seat(0, far), LastBows.UNKNOWN);
        }
        check.due("seat(0, 0)", x.seat(0, 0), 4);
        check.due("seat(0, 9)", x.seat(0, 9), 0);
        check.due("where it is", x.hand(0, 0), 9);
    }

    @Says("LATE: one is there.")
    static void promise11_aTakenSeatIsLate() {
        LastBows x = Check.house("HP1P1D0010D9110");
        check.due("seat(0, 9)", x.seat(0, 9), LastBows.LATE);
        check.due("seat(1, 0)", x.seat(1, 0), LastBows.LATE);
    }

    @Says({"SEATED: a HAND is at another SEAT where none is.", "LATE: one is there."})
    static void promise11_itsOwnSeatIsLate() {
        LastBows x = Check.house("HP1D0010");
        check.due("seat(0, 0)", x.seat(0, 0), LastBows.LATE);
    }

    @Says({"Of several what is told first.", "UNKNOWN: hand, seat; LATE: one is there."})
    static void promise11_unknownIsAheadOfLate() {
        check.due("an unknown hand, a taken seat", Check.house("HP1D0010").seat(1, 0), LastBows.UNKNOWN);
    }

    @Says("SEATED: a HAND is at another SEAT where none is.")
    static void promise11_theSeatThatWasLeftIsFree() {
        LastBows x = Check.house("HP1D0010D9010");
        x.seat(0, 5);
        check.due("seat(1, 0)", x.seat(1, 0), 9);
        check.due("seat(0, 9)", x.seat(0, 9), 5);
        check.due("taken", x.about(4), 513);
    }

    @Says({"SEATED: a HAND is at another SEAT where none is.", "9 in a row (0 is beside 1 alone, 9 beside 8)"})
    static void promise11_whoIsHushedIsSoByTheNewSeat() {
        LastBows x = Check.house("HP1D0090D5013");
        check.due("seat(1, 1)", x.seat(1, 1), 5);
        check.due("hushed", x.about(6), 1);
        check.due("seat(1, 9)", x.seat(1, 9), 1);
        check.due("hushed no more", x.about(6), 0);
    }

    @Says("What is refused changes nothing.")
    static void promise11_whatIsRefusedChangesNothing() {
        Twins.changeNothing(check, x -> {
            check.due("unknown hand", x.seat(4, 7), LastBows.UNKNOWN);
            check.due("unknown seat", x.seat(0, 10), LastBows.UNKNOWN);
            check.due("one is there", x.seat(0, 2), LastBows.LATE);
            check.due("its own", x.seat(0, 6), LastBows.LATE);
        });
    }

    // ---- promise 12: night

    @Says("A NIGHT: each HAND of VIGOUR less than its FONDNESS has 1 more")
    static void promise12_oneLessThanItsFondnessHasAsMuchThen() {
        LastBows x = Check.house("HP1D0050");
        x.call(0);
        check.due("night()", x.night(), 5);
        check.due("night() again", x.night(), 5);
    }

    @Says("A NIGHT: each HAND of VIGOUR less than its FONDNESS has 1 more")
    static void promise12_from0VigourTo1() {
        LastBows x = Check.house("HP1D0022");
        x.call(0);
        x.call(0);
        check.due("vigour", x.hand(0, 4), 0);
        check.due("night()", x.night(), 1);
    }

    @Says("A NIGHT: each HAND of VIGOUR less than its FONDNESS has 1 more")
    static void promise12_asMuchAsItsFondnessStays() {
        check.due("the least", Check.house("HP1D0010").night(), 1);
        check.due("the most", Check.house("HP1D0090").night(), 9);
    }

    @Says("A NIGHT: each HAND of VIGOUR less than its FONDNESS has 1 more")
    static void promise12_moreThanItsFondnessStays() {
        LastBows x = Check.house("HP1D0010");
        x.flowers(0);
        check.due("night()", x.night(), 2);
    }

    @Says({"A NIGHT: each HAND of VIGOUR less than its FONDNESS has 1 more", "HANDS 0, 1, .. (7 at most)"})
    static void promise12_allSevenHandsHaveMore() {
        LastBows x = Check.house("HP7D0030D1030D2030D3030D4030D5030D6030");
        x.call(0);
        check.due("vigour", x.about(5), 14);
        check.due("night()", x.night(), 21);
        check.due("the first", x.hand(0, 4), 3);
        check.due("the last", x.hand(6, 4), 3);
    }

    @Says("A NIGHT: VIGOUR of all HANDS.")
    static void promise12_withoutHandsItIs0() {
        check.due("nobody at all", new LastBows().night(), 0);
        check.due("players alone", Check.house("HP1P1").night(), 0);
    }

    @Says("THE NIGHT is one more.")
    static void promise12_whoIsDeadStaysDead() {
        LastBows x = Check.house("HP7");
        x.call(0);
        x.night();
        check.due("dead", x.about(3), 1);
        check.due("THE NIGHT", x.about(2), 1);
    }

    // ---- promise 13: undo

    @Says("LATE: there is none.")
    static void promise13_withoutActsItIsLate() {
        check.due("a new object", new LastBows().undo(), LastBows.LATE);
        LastBows x = Check.house("HP1D0090");
        check.due("a new house", x.undo(), LastBows.LATE);
        x.night();
        check.due("the one", x.undo(), 0);
        check.due("none is left", x.undo(), LastBows.LATE);
    }

    @Says("What is refused changes nothing.")
    static void promise13_whatIsRefusedChangesNothing() {
        LastBows touched = Twins.lived();
        touched.again(1);
        LastBows twin = Twins.lived();
        twin.again(1);
        Twins.changeNothing(check, touched, twin, x -> check.due("undo()", x.undo(), LastBows.LATE));
    }

    @Says("the last one can be undone.")
    static void promise13_aCallIsUndone() {
        LastBows x = Check.house("HP1D0090");
        x.call(0);
        check.due("undo()", x.undo(), 0);
        check.due("called", x.player(0, 1), 0);
        check.due("vigour", x.about(5), 9);
    }

    @Says("the last one can be undone.")
    static void promise13_aDeathIsUndone() {
        LastBows x = Check.house("HP2D0090");
        x.call(0);
        check.due("undo()", x.undo(), 0);
        check.due("dead", x.about(3), 0);
        check.due("he can be called", x.call(0), 1);
    }

    @Says("the last one can be undone.")
    static void promise13_flowersAreUndoneWhereVigourWas9Too() {
        LastBows x = Check.house("HP1D0090D2080");
        x.flowers(0);
        check.due("undo()", x.undo(), 0);
        check.due("9 stays 9", x.hand(0, 4), 9);
        check.due("8 is 8 again", x.hand(1, 4), 8);
    }

    @Says("the last one can be undone.")
    static void promise13_aSeatIsUndone() {
        LastBows x = Check.house("HP1D0090");
        x.seat(0, 9);
        check.due("undo()", x.undo(), 0);
        check.due("seat", x.hand(0, 0), 0);
    }

    @Says("the last one can be undone.")
    static void promise13_aNightIsUndoneForWhomItGaveNothingToo() {
        LastBows x = Check.house("HP1D0090D5010");
        x.call(0);
        x.night();
        check.due("undo()", x.undo(), 1);
        check.due("THE NIGHT", x.about(2), 0);
        check.due("whom it gave 1", x.hand(0, 4), 8);
        check.due("whom it gave none", x.hand(1, 4), 1);
    }

    @Says("The last ACT is undone: how many are left.")
    static void promise13_toUndoIsNoAct() {
        LastBows x = Check.house("HP1D0090");
        x.call(0);
        x.flowers(0);
        check.due("undo()", x.undo(), 1);
        check.due("vigour behind the call", x.about(5), 8);
        check.due("undo() again", x.undo(), 0);
        check.due("vigour ahead of it", x.about(5), 9);
        check.due("and again", x.undo(), LastBows.LATE);
    }

    @Says("are a row (14 at most; when it is full, the first one is forgotten)")
    static void promise13_fourteenActsAreAllUndone() {
        undoBehind(14, 0);
    }

    @Says("are a row (14 at most; when it is full, the first one is forgotten)")
    static void promise13_ofFifteenActsTheFirstIsForgotten() {
        undoBehind(15, 1);
    }

    @Says("are a row (14 at most; when it is full, the first one is forgotten)")
    static void promise13_ofManyActsTheLast14AreUndone() {
        undoBehind(27, 13);
        undoBehind(28, 14);
        undoBehind(29, 15);
        undoBehind(100, 86);
    }

    @Says("are a row (14 at most; when it is full, the first one is forgotten)")
    static void promise13_whatIsForgottenStaysForgottenWhenTheRowHasRoomAgain() {
        LastBows x = Check.house("H");
        for (int act = 0; act < 16; act++) {
            x.night();
        }
        for (int act = 0; act < 3; act++) {
            x.undo();
        }
        for (int act = 0; act < 3; act++) {
            x.night();
        }
        check.due("acts", x.about(7), 14);
        for (int left = 13; left >= 0; left--) {
            check.due("undo()", x.undo(), left);
        }
        check.due("THE NIGHT", x.about(2), 2);
        check.due("none is left", x.undo(), LastBows.LATE);
    }

    @Says("ACTS (CALLED, FLOWERS, SEATED, NIGHTS)")
    static void promise13_nothingElseIsAnAct() {
        LastBows x = Check.house("HP1D0090");
        x.write('P');
        x.wipe();
        x.hear(0, 0, 1);
        x.unhear();
        x.seed(4);
        x.seasons(1);
        x.keep(0);
        check.due("acts", x.about(7), 0);
        check.due("undo()", x.undo(), LastBows.LATE);
    }

    private static void comes(String text, int loud, boolean he) {
        LastBows x = Check.house(text);
        check.due("call(0) in " + text, x.call(0), loud);
        check.due("called in " + text, x.player(0, 1), he ? 1 : 0);
        check.due("dead in " + text, x.player(0, 4), he ? 0 : 1);
    }

    private static void undoBehind(int nights, int forgotten) {
        LastBows x = Check.house("H");
        for (int night = 0; night < nights; night++) {
            x.night();
        }
        for (int left = 13; left >= 0; left--) {
            check.due("undo() behind " + nights, x.undo(), left);
            check.due("THE NIGHT then", x.about(2), forgotten + left);
        }
        check.due("none is left behind " + nights, x.undo(), LastBows.LATE);
        check.due("THE NIGHT stays", x.about(2), forgotten);
    }
}
