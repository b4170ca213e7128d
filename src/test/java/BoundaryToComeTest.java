/** The boundaries of promises 14 to 19: yet, best, wants, still, judge, share. */
public final class BoundaryToComeTest {
    private static final Check check = new Check();
    private static final String SEVEN_PLAIN = "D0030D1030D2030D3030D4030D5030D6030";

    public static void main(String[] args) throws IllegalAccessException {
        Boundaries.run(BoundaryToComeTest.class, check);
    }

    // ---- promise 14: yet

    @Says("YET. UNKNOWN; LATE: he is DEAD.")
    static void promise14_aPlayerNotToldIsUnknown() {
        LastBows x = Check.house("HP1P1P1D0090D5290");
        check.due("yet(2)", x.yet(2), 7);
        check.due("yet(3)", x.yet(3), LastBows.UNKNOWN);
        check.due("yet(-1)", x.yet(-1), LastBows.UNKNOWN);
        for (int far : Check.FAR) {
            check.due("yet(" + far + ")", x.yet(far), LastBows.UNKNOWN);
        }
        check.due("yet(1) of one", Check.house("HP1").yet(1), LastBows.UNKNOWN);
    }

    @Says({"YET for a PLAYER that is not DEAD", "LATE: he is DEAD."})
    static void promise14_aDeadOneIsLate() {
        LastBows x = Check.house("HP2P1D0090D5190");
        x.call(0);
        check.due("yet(0)", x.yet(0), LastBows.LATE);
        check.due("yet(1)", x.yet(1), 7);
        x.undo();
        check.due("yet(0), the death undone", x.yet(0), 0);
    }

    @Says("how often he comes, if he is CALLED again and again till he is DEAD (0 .. 80)")
    static void promise14_theLeastIs0() {
        check.due("nobody claps", Check.house("HP1").yet(0), 0);
        check.due("one too few", Check.house("HP2D0090").yet(0), 0);
        LastBows spent = Check.house("HP1D0030");
        spent.call(0);
        check.due("spent, but not dead", spent.yet(0), 0);
    }

    @Says("how often he comes, if he is CALLED again and again till he is DEAD (0 .. 80)")
    static void promise14_theMostAHouseCanIs16() {
        check.due("plain for 7, then lonely for 9", Check.house("HP1D0090D9092").yet(0), 16);
        check.due("seven hands", Check.house("HP1D0090D1091D2091D4092D6092D8092D9090").yet(0), 16);
        check.due("seven plain ones", Check.house("HP7D0090D1090D2090D3090D4090D5090D6090").yet(0), 7);
    }

    @Says("how often he comes, if he is CALLED again and again till he is DEAD (0 .. 80)")
    static void promise14_itIsAsOftenAsHeComesThen() {
        LastBows x = Check.house("HP2D0050D1031D3040D5092");
        int yet = x.yet(0);
        for (int call = 0; call < yet; call++) {
            check.due("yet", x.yet(0), yet - call);
            x.call(0);
            check.due("dead", x.player(0, 4), 0);
        }
        x.call(0);
        check.due("dead then", x.player(0, 4), 1);
    }

    @Says({"In what follows nothing is changed.", "What is refused changes nothing."})
    static void promise14_nothingIsChanged() {
        Twins.changeNothing(check, x -> {
            x.yet(0);
            x.yet(2);
            check.due("unknown", x.yet(3), LastBows.UNKNOWN);
            check.due("dead", x.yet(1), LastBows.LATE);
        });
    }

    // ---- promise 15: best

    @Says("UNKNOWN; BAD; LATE: its PLAYER is DEAD.")
    static void promise15_aHandNotToldIsUnknown() {
        LastBows x = Check.house("HP1D0030D1030");
        check.due("best(1, 1)", x.best(1, 1), 1);
        check.due("best(2, 0)", x.best(2, 0), LastBows.UNKNOWN);
        check.due("best(-1, 0)", x.best(-1, 0), LastBows.UNKNOWN);
        for (int far : Check.FAR) {
            check.due("best(" + far + ", 0)", x.best(far, 0), LastBows.UNKNOWN);
        }
        LastBows seven = Check.house("HP1" + SEVEN_PLAIN);
        check.due("best(6, 1)", seven.best(6, 1), 1);
        check.due("best(7, 1)", seven.best(7, 1), LastBows.UNKNOWN);
    }

    @Says("BEST: which (what = 0), how often (1). UNKNOWN; BAD;")
    static void promise15_whatBelow0OrAbove1IsBad() {
        LastBows x = Check.house("HP1D0030");
        check.due("best(0, -1)", x.best(0, -1), LastBows.BAD);
        check.due("best(0, 2)", x.best(0, 2), LastBows.BAD);
        for (int far : Check.FAR) {
            check.due("best(0, " + far + ")", x.best(0, far), LastBows.BAD);
        }
    }

    @Says("LATE: its PLAYER is DEAD.")
    static void promise15_itsPlayerDeadIsLate() {
        LastBows x = Check.house("HP2P1D0090D5190");
        x.call(0);
        check.due("best(0, 0)", x.best(0, 0), LastBows.LATE);
        check.due("best(0, 1)", x.best(0, 1), LastBows.LATE);
        check.due("another's", x.best(1, 1), 7);
    }

    @Says({"Of several what is told first.", "UNKNOWN; BAD; LATE: its PLAYER is DEAD."})
    static void promise15_unknownIsAheadOfBadAheadOfLate() {
        LastBows x = Check.house("HP2D0090");
        x.call(0);
        check.due("unknown and bad", x.best(1, 2), LastBows.UNKNOWN);
        check.due("bad and late", x.best(0, 2), LastBows.BAD);
    }

    @Says("the SEAT (its own, or one where none is)")
    static void promise15_itsOwnSeatMayBeBest() {
        best("HP1D3040D1013D5013D7013D9013", 0, 3, 2);
        best("HP2P1D9050D8091D7190", 0, 9, 3);
        best("HP2D0050D1091", 0, 0, 3);
    }

    @Says("the SEAT (its own, or one where none is)")
    static void promise15_aTakenSeatIsNotBest() {
        best("HP2D4050D9091", 1, 3, 3);
        best("HP2P1D4050D9091D3110", 1, 5, 3);
        best("HP2P1D4050D9091D3110D5110", 1, 0, 0);
    }

    @Says({"the SEAT (its own, or one where none is)", "SEATS are 0 ..", "9 in a row"})
    static void promise15_theLastSeatMayBeBest() {
        best("HP2P1D4050D8091D7190", 0, 9, 3);
    }

    @Says("of like ones the least: which; how often.")
    static void promise15_ofLikeSeatsTheLeast() {
        best("HP1D6040", 0, 0, 2);
        best("HP1P1D0190D6040", 1, 1, 2);
    }

    @Says("of like ones the least: which; how often.")
    static void promise15_whereHeNeverComesItIsTheLeastAnd0() {
        best("HP7D6040", 0, 0, 0);
        best("HP7P1D0190D6040", 1, 1, 0);
    }

    @Says({"the SEAT (its own, or one where none is)", "9 in a row (0 is beside 1 alone, 9 beside 8)"})
    static void promise15_behindTheLastSeatIsNone() {
        // Each seat of the row is beside a hisser; one behind it would not be.
        best("HP1D0040D1013D4013D6013D8013", 0, 0, 0);
    }

    @Says("YET is most for the PLAYER of whom it is fond")
    static void promise15_itIsForThePlayerOfWhomItIsFond() {
        // At seat 0 the hisser would hush player 0's hand, at 9 its own player's: its own is what counts.
        best("HP1P1D1090D8190D9113", 2, 0, 7);
    }

    @Says("YET is most for the PLAYER of whom it is fond")
    static void promise15_aHisserIsBestWhereItHushesNobodyOfHis() {
        best("HP1D0090D1013", 1, 2, 7);
    }

    @Says({"In what follows nothing is changed.", "What is refused changes nothing."})
    static void promise15_nothingIsChanged() {
        Twins.changeNothing(check, x -> {
            x.best(0, 0);
            x.best(3, 1);
            check.due("unknown", x.best(4, 0), LastBows.UNKNOWN);
            check.due("bad", x.best(0, 2), LastBows.BAD);
            check.due("late", x.best(1, 0), LastBows.LATE);
        });
    }

    // ---- promise 16: wants

    @Says("WANTS; NONE. UNKNOWN; BAD: n; LATE: he is DEAD.")
    static void promise16_aPlayerNotToldIsUnknown() {
        LastBows x = Check.house("HP1P1P1D0030D5230");
        check.due("wants(2, 1)", x.wants(2, 1), 0);
        check.due("wants(3, 1)", x.wants(3, 1), LastBows.UNKNOWN);
        check.due("wants(-1, 1)", x.wants(-1, 1), LastBows.UNKNOWN);
        for (int far : Check.FAR) {
            check.due("wants(" + far + ", 1)", x.wants(far, 1), LastBows.UNKNOWN);
        }
        check.due("wants(1, 1) of one", Check.house("HP1").wants(1, 1), LastBows.UNKNOWN);
    }

    @Says({"WANTS of a PLAYER for n (1 .. 9)", "BAD: n;"})
    static void promise16_nBelow1OrAbove9IsBad() {
        LastBows x = Check.house("HP1D0090D5092");
        check.due("wants(0, 0)", x.wants(0, 0), LastBows.BAD);
        check.due("wants(0, 1)", x.wants(0, 1), 0);
        check.due("wants(0, 9)", x.wants(0, 9), 0);
        check.due("wants(0, 10)", x.wants(0, 10), LastBows.BAD);
        check.due("wants(0, -1)", x.wants(0, -1), LastBows.BAD);
        for (int far : Check.FAR) {
            check.due("wants(0, " + far + ")", x.wants(0, far), LastBows.BAD);
        }
    }

    @Says("LATE: he is DEAD.")
    static void promise16_aDeadOneIsLate() {
        LastBows x = Check.house("HP1D0020");
        x.call(0);
        check.due("wants(0, 1)", x.wants(0, 1), LastBows.LATE);
    }

    @Says({"Of several what is told first.", "UNKNOWN; BAD: n; LATE: he is DEAD."})
    static void promise16_unknownIsAheadOfBadAheadOfLate() {
        LastBows x = Check.house("HP1D0020");
        x.call(0);
        check.due("unknown and bad", x.wants(1, 0), LastBows.UNKNOWN);
        check.due("bad and late", x.wants(0, 10), LastBows.BAD);
    }

    @Says("the fewest FLOWERS (0 .. 9, all now)")
    static void promise16_theFewestAre0() {
        check.due("once", Check.house("HP1D0030").wants(0, 1), 0);
        check.due("seven times", Check.house("HP1D0090").wants(0, 7), 0);
    }

    @Says("the fewest FLOWERS (0 .. 9, all now)")
    static void promise16_theMostAre9() {
        LastBows x = Check.house("HP1D0012");
        check.due("from 1 vigour", x.wants(0, 9), 8);
        x.call(0);
        check.due("from 0 vigour", x.wants(0, 9), 9);
    }

    @Says({"the fewest FLOWERS (0 .. 9, all now) by which YET is n or more; NONE.", "WANTS; NONE."})
    static void promise16_noneWhereNoFlowersAreEnough() {
        check.due("nobody is fond", Check.house("HP1").wants(0, 1), LastBows.NONE);
        check.due("one hand too few", Check.house("HP2D0090").wants(0, 1), LastBows.NONE);
        LastBows x = Check.house("HP1D0010");
        check.due("seven times", x.wants(0, 7), 8);
        check.due("vigour is 9 at most", x.wants(0, 8), LastBows.NONE);
    }

    @Says("by which YET is n or more")
    static void promise16_moreOftenThanNIsEnough() {
        check.due("nine times without", Check.house("HP1D0020D5092").wants(0, 9), 0);
        check.due("ten times without", Check.house("HP1D0030D5092").wants(0, 9), 0);
        // From never to twice by one: the plain one claps once, and the lonely one behind it.
        LastBows x = Check.house("HP1D0020D5012");
        x.call(0);
        check.due("never without", x.yet(0), 0);
        check.due("twice is more than once", x.wants(0, 1), 1);
        check.due("twice", x.wants(0, 2), 1);
    }

    @Says("the fewest FLOWERS (0 .. 9, all now)")
    static void promise16_theFewestWhereMoreWouldBeTooMany() {
        // With a flower the plain one wakes, claps alone, and silences both lonely ones.
        LastBows x = Check.house("HP2D0020D4032D6032");
        check.due("as it is", x.wants(0, 3), 0);
        check.due("once more than it is", x.wants(0, 4), LastBows.NONE);
    }

    @Says({"In what follows nothing is changed.", "What is refused changes nothing."})
    static void promise16_nothingIsChanged() {
        Twins.changeNothing(check, x -> {
            x.wants(0, 9);
            x.wants(2, 1);
            check.due("unknown", x.wants(3, 1), LastBows.UNKNOWN);
            check.due("bad", x.wants(0, 0), LastBows.BAD);
            check.due("late", x.wants(1, 1), LastBows.LATE);
        });
    }

    // ---- promise 17: still

    @Says("STILL, as bits. UNKNOWN; LATE: he is DEAD.")
    static void promise17_aPlayerNotToldIsUnknown() {
        LastBows x = Check.house("HP1P1P1D0030D5230");
        check.due("still(2)", x.still(2), 2);
        check.due("still(3)", x.still(3), LastBows.UNKNOWN);
        check.due("still(-1)", x.still(-1), LastBows.UNKNOWN);
        for (int far : Check.FAR) {
            check.due("still(" + far + ")", x.still(far), LastBows.UNKNOWN);
        }
        check.due("still(1) of one", Check.house("HP1").still(1), LastBows.UNKNOWN);
    }

    @Says("LATE: he is DEAD.")
    static void promise17_aDeadOneIsLate() {
        LastBows x = Check.house("HP2D0090");
        x.call(0);
        check.due("still(0)", x.still(0), LastBows.LATE);
    }

    @Says("he is not CALLED (YET 0)")
    static void promise17_noneWhereItIsStillAlready() {
        check.due("nobody", Check.house("HP1").still(0), 0);
        check.due("one too few", Check.house("HP2D0090").still(0), 0);
        LastBows spent = Check.house("HP1D0030");
        spent.call(0);
        check.due("spent", spent.still(0), 0);
    }

    @Says("the fewest HANDS (bits; of like ones the least) with which sent home (not there)")
    static void promise17_allSevenWhereEachIsEnough() {
        check.due("still(0)", Check.house("HP1" + SEVEN_PLAIN).still(0), 127);
    }

    @Says("the fewest HANDS (bits; of like ones the least) with which sent home (not there)")
    static void promise17_ofLikeOnesTheLeast() {
        check.due("one of seven", Check.house("HP7" + SEVEN_PLAIN).still(0), 1);
        check.due("two of seven", Check.house("HP6" + SEVEN_PLAIN).still(0), 3);
        check.due("six of seven", Check.house("HP2" + SEVEN_PLAIN).still(0), 63);
    }

    @Says("the fewest HANDS (bits; of like ones the least) with which sent home (not there)")
    static void promise17_theFewestAreAheadOfTheLeast() {
        check.due("the plain one, not both ushers", Check.house("HP2D1091D3091D2090").still(0), 4);
    }

    @Says("the fewest HANDS (bits; of like ones the least) with which sent home (not there)")
    static void promise17_whoIsSentHomeSilencesNobody() {
        check.due("the lonely one, too", Check.house("HP1D0030D5092").still(0), 3);
        check.due("not the hisser", Check.house("HP1D0090D1013D5030").still(0), 4);
    }

    @Says({"In what follows nothing is changed.", "What is refused changes nothing."})
    static void promise17_nothingIsChanged() {
        Twins.changeNothing(check, x -> {
            x.still(0);
            x.still(2);
            check.due("unknown", x.still(3), LastBows.UNKNOWN);
            check.due("late", x.still(1), LastBows.LATE);
        });
    }

    // ---- promise 18: judge

    @Says({"JUDGED: n doings (1 .. 4)", "BAD: n, row (0 or more, 3 n figures at most)."})
    static void promise18_nBelow1OrAbove4IsBad() {
        LastBows x = Check.house("H");
        check.due("judge(0, 0)", x.judge(0, 0), LastBows.BAD);
        check.due("judge(0, 400)", x.judge(0, 400), LastBows.BAD);
        check.due("judge(1, 400)", x.judge(1, 400), LastBows.NONE);
        check.due("judge(4, ..)", x.judge(4, 400400400400L), LastBows.NONE);
        check.due("judge(5, ..)", x.judge(5, 400400400400400L), LastBows.BAD);
        check.due("judge(-1, 400)", x.judge(-1, 400), LastBows.BAD);
        for (int far : Check.FAR) {
            check.due("judge(" + far + ", 400)", x.judge(far, 400), LastBows.BAD);
        }
    }

    @Says("BAD: n, row (0 or more, 3 n figures at most).")
    static void promise18_aRowLessThan0IsBad() {
        LastBows x = Check.house("H");
        for (int n = 1; n <= 4; n++) {
            check.due("row -1", x.judge(n, -1), LastBows.BAD);
            check.due("row -400", x.judge(n, -400), LastBows.BAD);
            check.due("row least", x.judge(n, Long.MIN_VALUE), LastBows.BAD);
        }
    }

    @Says("BAD: n, row (0 or more, 3 n figures at most).")
    static void promise18_aRowOf0IsNotBad() {
        LastBows x = Check.house("H");
        for (int n = 1; n <= 4; n++) {
            check.due("row 0", x.judge(n, 0), 0);
        }
    }

    @Says("BAD: n, row (0 or more, 3 n figures at most).")
    static void promise18_moreThan3nFiguresAreBad() {
        LastBows x = Check.house("H");
        long beyond = 1;
        for (int n = 1; n <= 4; n++) {
            beyond *= 1000;
            check.due("all nines", x.judge(n, beyond - 1), 0);
            check.due("one figure more", x.judge(n, beyond), LastBows.BAD);
            check.due("the most", x.judge(n, Long.MAX_VALUE), LastBows.BAD);
            // Cut to 32 bits this row would be one night.
            check.due("beyond 32 bits", x.judge(n, (1L << 62) + 400), LastBows.BAD);
        }
        check.due("2^32 and 400 for one", x.judge(1, (1L << 32) + 400), LastBows.BAD);
    }

    @Says("told as three figures each, the first doing's the highest of row")
    static void promise18_theFirstDoingIsTheHighest() {
        LastBows x = Check.house("H");
        check.due("not the first", x.judge(2, 999400), 0);
        check.due("not the second", x.judge(2, 400999), 1);
        check.due("noughts ahead are a doing", x.judge(2, 400), 0);
        check.due("noughts ahead of four", x.judge(4, 400400400), 0);
    }

    @Says({"the place (from 0) of the first that can not be (or is not so)", "NONE: none.", "JUDGED; NONE."})
    static void promise18_placesAre0To3OrNone() {
        LastBows x = Check.house("H");
        check.due("0", x.judge(4, 999400400999L), 0);
        check.due("1", x.judge(4, 400999400999L), 1);
        check.due("2", x.judge(4, 400400999999L), 2);
        check.due("3", x.judge(4, 400400400999L), 3);
        check.due("none", x.judge(4, 400400400400L), LastBows.NONE);
    }

    @Says("what is ahead of it being done")
    static void promise18_whatIsAheadIsDone() {
        LastBows x = Check.house("HP1D0040");
        check.due("he comes twice", x.judge(2, 100100), LastBows.NONE);
        check.due("not thrice", x.judge(3, 100100100), 2);
        check.due("thrice with flowers", x.judge(4, 100100200100L), LastBows.NONE);
        check.due("thrice with a night", x.judge(4, 100100400100L), LastBows.NONE);
        check.due("a night gives nothing ahead", x.judge(4, 400100100100L), 3);
    }

    @Says("(1, 0, a PLAYER: CALLED, and he comes;")
    static void promise18_1_heComesOrItIsNotSo() {
        LastBows x = Check.house("HP1P2P1D0030D5130");
        check.due("just loud enough", x.judge(1, 100), LastBows.NONE);
        check.due("one too few", x.judge(1, 101), 0);
        check.due("nobody claps", x.judge(1, 102), 0);
        check.due("no such player", x.judge(1, 103), 0);
        check.due("9", x.judge(1, 109), 0);
        LastBows dead = Check.house("HP1D0020");
        dead.call(0);
        dead.flowers(0);
        check.due("loud enough, but dead", dead.judge(1, 100), 0);
    }

    @Says("2, 0, a PLAYER: FLOWERS;")
    static void promise18_2_flowersForADeadOneCanBeForNobodyNot() {
        LastBows x = Check.house("HP7P7");
        x.call(1);
        check.due("dead", x.judge(1, 201), LastBows.NONE);
        check.due("no such player", x.judge(1, 202), 0);
        check.due("9", x.judge(1, 209), 0);
    }

    @Says("2, 0, a PLAYER: FLOWERS;")
    static void promise18_2_flowersAreOneMoreEach() {
        LastBows x = Check.house("HP1D0010");
        check.due("one", x.judge(2, 200601), 1);
        check.due("two", x.judge(3, 200200601), LastBows.NONE);
    }

    @Says("3, a HAND, a SEAT: SEATED;")
    static void promise18_3_seatedWhereNoneIs() {
        LastBows x = Check.house("HP1" + SEVEN_PLAIN);
        check.due("the last hand, the last seat", x.judge(1, 369), LastBows.NONE);
        check.due("no such hand", x.judge(1, 379), 0);
        check.due("one is there", x.judge(1, 360), 0);
        check.due("its own", x.judge(1, 366), 0);
        check.due("the seat that was left", x.judge(2, 309360), LastBows.NONE);
        check.due("the seat that was just taken", x.judge(2, 309369), 1);
        check.due("the first hand, back again", x.judge(2, 309300), LastBows.NONE);
    }

    @Says("3, a HAND, a SEAT: SEATED;")
    static void promise18_3_whatIsHushedIsSoByTheNewSeat() {
        LastBows x = Check.house("HP1D0030D5013");
        check.due("beside it", x.judge(2, 311601), 1);
        check.due("not beside it", x.judge(2, 312601), LastBows.NONE);
        check.due("at the other end", x.judge(2, 319601), LastBows.NONE);
    }

    @Says("4, 0, 0: A NIGHT;")
    static void promise18_4_aNightCanAlwaysBe() {
        check.due("nobody there", new LastBows().judge(1, 400), LastBows.NONE);
        LastBows x = Check.house("HP1D0030");
        check.due("vigour comes back", x.judge(3, 100400100), LastBows.NONE);
        check.due("not more than was", x.judge(4, 400100601400L), 2);
    }

    @Says("5, 0, a PLAYER: he is not DEAD;")
    static void promise18_5_notDead() {
        LastBows x = Check.house("HP7P1P1");
        check.due("alive", x.judge(2, 500502), LastBows.NONE);
        x.call(0);
        check.due("dead", x.judge(1, 500), 0);
        check.due("another", x.judge(1, 501), LastBows.NONE);
        check.due("no such player", x.judge(1, 503), 0);
    }

    @Says("6, a PLAYER, v: it is as LOUD as v for him, or more)")
    static void promise18_6_asLoudAsV() {
        LastBows x = Check.house("HP1P1" + SEVEN_PLAIN);
        check.due("0 where nobody claps", x.judge(1, 610), LastBows.NONE);
        check.due("1 where nobody claps", x.judge(1, 611), 0);
        check.due("7 of 7", x.judge(1, 607), LastBows.NONE);
        check.due("8 of 7", x.judge(1, 608), 0);
        check.due("9", x.judge(1, 609), 0);
        check.due("no such player", x.judge(1, 620), 0);
        x.call(1);
        check.due("a dead one", x.judge(1, 610), LastBows.NONE);
    }

    @Says({"told as three figures each", "(1, 0, a PLAYER: CALLED, and he comes; 2, 0, a PLAYER: FLOWERS;",
        "4, 0, 0: A NIGHT; 5, 0, a PLAYER: he is not DEAD;"})
    static void promise18_whereA0IsToldNothingElseCanBe() {
        LastBows x = Check.house("HP1P1D0090");
        for (int row : new int[] {110, 190, 210, 290, 410, 490, 401, 409, 510, 590}) {
            check.due("judge(1, " + row + ")", x.judge(1, row), 0);
        }
    }

    @Says("told as three figures each")
    static void promise18_otherDoingsThan1To6CanNotBe() {
        LastBows x = Check.house("HP1D0090");
        for (int row : new int[] {0, 1, 99, 700, 800, 900, 999}) {
            check.due("judge(1, " + row + ")", x.judge(1, row), 0);
            check.due("judge(2, 400..)", x.judge(2, 400000 + row), 1);
        }
    }

    @Says({"In what follows nothing is changed.", "What is refused changes nothing."})
    static void promise18_nothingIsChanged() {
        Twins.changeNothing(check, x -> {
            check.due("done", x.judge(4, 200307400500L), LastBows.NONE);
            check.due("he would be dead", x.judge(2, 102102), 0);
            check.due("called", x.judge(2, 200100), LastBows.NONE);
            check.due("bad", x.judge(5, 400), LastBows.BAD);
            check.due("bad row", x.judge(1, 1000), LastBows.BAD);
        });
    }

    // ---- promise 19: share

    @Says("SHARE. UNKNOWN: both.")
    static void promise19_aHandNotToldIsUnknown() {
        LastBows x = Check.house("HP1P1P1D0030D1030");
        check.due("share(2, 0)", x.share(2, 0, true), LastBows.UNKNOWN);
        check.due("share(-1, 0)", x.share(-1, 0, false), LastBows.UNKNOWN);
        for (int far : Check.FAR) {
            check.due("share(" + far + ", 0)", x.share(far, 0, true), LastBows.UNKNOWN);
        }
        check.due("share(7, 0) of seven", Check.house("HP1" + SEVEN_PLAIN).share(7, 0, true), LastBows.UNKNOWN);
    }

    @Says("SHARE. UNKNOWN: both.")
    static void promise19_aPlayerNotToldIsUnknown() {
        LastBows x = Check.house("HP1P1P1D0030D1030");
        check.due("share(0, 2)", x.share(0, 2, true), 0);
        check.due("share(0, 3)", x.share(0, 3, true), LastBows.UNKNOWN);
        check.due("share(0, -1)", x.share(0, -1, false), LastBows.UNKNOWN);
        for (int far : Check.FAR) {
            check.due("share(0, " + far + ")", x.share(0, far, false), LastBows.UNKNOWN);
        }
        check.due("neither", x.share(2, 3, true), LastBows.UNKNOWN);
        check.due("nobody at all", new LastBows().share(0, 0, false), LastBows.UNKNOWN);
    }

    @Says({"SHARE of a HAND for a PLAYER", "in least terms."})
    static void promise19_theOnlyHandHas1Of1() {
        share("HP1D0030", 0, 0, 1, 1);
    }

    @Says("in least terms.")
    static void promise19_nothingIs0Of1() {
        share("HP1D0020", 0, 0, 0, 1);
        share("HP1P1D0030D1030", 0, 1, 0, 1);
        share("HP1D0030D9013", 1, 0, 0, 1);
        // Two lonely ones and a plain one, who silences both as often as he is first: nothing in the mean.
        share("HP1D0012D4012D8030", 2, 0, 0, 1);
    }

    @Says("FRACTIONS are told above (upper = true; less than 0, if they are), below, in least terms.")
    static void promise19_lessThan0IsToldAbove() {
        share("HP1D0030D1013", 1, 0, -1, 2);
        // Between two of them it hushes both, or as many as are there.
        share("HP1D0030D2030D1013", 2, 0, -1, 1);
        // Whom it is not fond of it hushes, too.
        share("HP1P1D0030D1113", 1, 0, -1, 2);
    }

    @Says("FRACTIONS are told above (upper = true; less than 0, if they are), below, in least terms.")
    static void promise19_moreThan1IsAFractionToo() {
        share("HP1D0030D1011", 0, 0, 3, 2);
        share("HP1D0030D1011", 1, 0, 1, 2);
        share("HP1D1011D2030D3011", 1, 0, 2, 1);
    }

    @Says("if HANDS come one by one, in each order as likely (others are not there)")
    static void promise19_sevenHandsInAllTheirOrders() {
        // The usher at seat k claps if all at 0 .. k are there: of each such set every one has an equal part.
        String row = "HP1D0030D1011D2011D3011D4011D5011D6011";
        share(row, 0, 0, 363, 140);
        share(row, 1, 0, 223, 140);
        share(row, 5, 0, 13, 42);
        share(row, 6, 0, 1, 7);
    }

    @Says("by how much in the mean it is LOUDER for him when it has come than it was")
    static void promise19_aDeadOnesIsToldToo() {
        LastBows x = Check.house("HP2D0030");
        x.call(0);
        check.due("above", x.share(0, 0, true), 1);
        check.due("below", x.share(0, 0, false), 1);
    }

    @Says({"In what follows nothing is changed.", "What is refused changes nothing."})
    static void promise19_nothingIsChanged() {
        Twins.changeNothing(check, x -> {
            x.share(0, 0, true);
            x.share(3, 2, false);
            check.due("no hand", x.share(4, 0, true), LastBows.UNKNOWN);
            check.due("no player", x.share(0, 3, true), LastBows.UNKNOWN);
        });
    }

    private static void best(String text, int hand, int which, int often) {
        LastBows x = Check.house(text);
        check.due("which in " + text, x.best(hand, 0), which);
        check.due("how often in " + text, x.best(hand, 1), often);
    }

    private static void share(String text, int hand, int player, int above, int below) {
        LastBows x = Check.house(text);
        check.due("above of " + hand + " in " + text, x.share(hand, player, true), above);
        check.due("below of " + hand + " in " + text, x.share(hand, player, false), below);
    }
}
