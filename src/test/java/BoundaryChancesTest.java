/** The boundaries of promises 23 to 26: rests, away, the seed, seasons. */
public final class BoundaryChancesTest {
    private static final Check check = new Check();
    private static final String SEVEN_PLAIN = "D0030D1030D2030D3030D4030D5030D6030";

    public static void main(String[] args) throws IllegalAccessException {
        Boundaries.run(BoundaryChancesTest.class, check);
    }

    // ---- promise 23: rests

    @Says("UNKNOWN: both; BAD: both are one, what; LATE: they are not fond of one.")
    static void promise23_aHandNotToldIsUnknown() {
        LastBows x = Check.house("HP1D0030D5030");
        check.due("the one", x.rests(2, 0, 0), LastBows.UNKNOWN);
        check.due("the other", x.rests(0, 2, 0), LastBows.UNKNOWN);
        check.due("the one -1", x.rests(-1, 0, 0), LastBows.UNKNOWN);
        check.due("the other -1", x.rests(0, -1, 0), LastBows.UNKNOWN);
        for (int far : Check.FAR) {
            check.due("the one " + far, x.rests(far, 0, 0), LastBows.UNKNOWN);
            check.due("the other " + far, x.rests(0, far, 0), LastBows.UNKNOWN);
        }
        LastBows seven = Check.house("HP1" + SEVEN_PLAIN);
        check.due("the last one", seven.rests(0, 6, 0), 1);
        check.due("behind the last one", seven.rests(0, 7, 0), LastBows.UNKNOWN);
        check.due("nobody at all", new LastBows().rests(0, 1, 0), LastBows.UNKNOWN);
    }

    @Says("BAD: both are one, what;")
    static void promise23_bothOneIsBad() {
        LastBows x = Check.house("HP1D0030D5030");
        check.due("rests(0, 0, 0)", x.rests(0, 0, 0), LastBows.BAD);
        check.due("rests(1, 1, 1)", x.rests(1, 1, 1), LastBows.BAD);
    }

    @Says("BAD: both are one, what;")
    static void promise23_whatBelow0OrAbove1IsBad() {
        LastBows x = Check.house("HP1D0030D5030");
        check.due("what -1", x.rests(0, 1, -1), LastBows.BAD);
        check.due("what 2", x.rests(0, 1, 2), LastBows.BAD);
        for (int far : Check.FAR) {
            check.due("what " + far, x.rests(0, 1, far), LastBows.BAD);
        }
    }

    @Says({"RESTS of two HANDS for a PLAYER of whom both are fond", "LATE: they are not fond of one."})
    static void promise23_handsOfTwoPlayersAreLate() {
        LastBows x = Check.house("HP1P1D0030D2130D5030");
        check.due("rests(0, 1, 0)", x.rests(0, 1, 0), LastBows.LATE);
        check.due("rests(1, 2, 1)", x.rests(1, 2, 1), LastBows.LATE);
        check.due("rests(0, 2, 0)", x.rests(0, 2, 0), 2);
    }

    @Says({"Of several what is told first.", "UNKNOWN: both; BAD: both are one, what; LATE: they are not fond of one."})
    static void promise23_unknownIsAheadOfBadAheadOfLate() {
        LastBows x = Check.house("HP1P1D0030D2130");
        check.due("unknown, and both one", x.rests(2, 2, 0), LastBows.UNKNOWN);
        check.due("unknown, and what", x.rests(0, 2, 2), LastBows.UNKNOWN);
        check.due("what, and late", x.rests(0, 1, 2), LastBows.BAD);
    }

    @Says("pairs in which neither has more by another choice alone: how many; the first one")
    static void promise23_oneTwoThreeOrAllFourPairsRest() {
        // Never loud enough: who claps has less for it, so both stay away.
        rests("HP3D0030D5030", 0, 1, 1, 0);
        rests("HP1D0030D5030", 0, 1, 2, 1);
        // He needs too many: the plain one has less only where it comes and the hisser does not.
        rests("HP5D5080D6023", 0, 1, 3, 0);
        rests("HP1D0020D5020", 0, 1, 4, 0);
    }

    @Says({"RESTS of two HANDS for a PLAYER of whom both are fond", "HANDS 0, 1, .. (7 at most)"})
    static void promise23_theFirstAndTheLastHandsRest() {
        // Either of the first and the last but one is enough; the last one is too weak to matter.
        String seven = "HP1P1D0030D1190D2190D3190D4190D5030D6020";
        rests(seven, 0, 5, 2, 1);
        rests(seven, 5, 0, 2, 1);
        rests(seven, 5, 6, 2, 0);
        rests(seven, 6, 0, 2, 0);
        // Both of the last ones are needed.
        rests("HP2P1D0190D1190D2190D3190D4190D5030D6030", 5, 6, 2, 0);
        rests("HP2P1D0190D1190D2190D3190D4190D5030D6030", 6, 5, 2, 0);
        // The last but one alone can clap.
        rests("HP1P1D0190D1190D2190D3190D4190D5030D6020", 5, 6, 2, 10);
        rests("HP1P1D0190D1190D2190D3190D4190D5030D6020", 6, 5, 2, 1);
    }

    @Says("the first one (10 times the one and the other)")
    static void promise23_theFirstIs0Or1Or10() {
        rests("HP2D0030D5030", 0, 1, 2, 0);
        rests("HP1D0030D5030", 0, 1, 2, 1);
        rests("HP1D0030D5020", 0, 1, 2, 10);
        rests("HP1D0030D5020", 1, 0, 2, 1);
    }

    @Says({"how many; the first one (10 times the one and the other); NONE.",
        "RESTS: how many (what = 0), the first one (1); NONE."})
    static void promise23_thereIsAlwaysARest() {
        // None can't come about: each two kinds, beside one another or apart, weak or not, for each need.
        for (int need = 1; need <= 3; need++) {
            for (int kinds = 0; kinds < 16; kinds++) {
                for (int how = 0; how < 8; how++) {
                    String text = "HP" + need + "D40" + (how % 2 == 0 ? 1 : 9) + kinds / 4
                        + "D" + (how / 2 % 2 == 0 ? 5 : 8) + "0" + (how / 4 == 0 ? 1 : 9) + kinds % 4 + "D7090";
                    LastBows x = Check.house(text);
                    check.holds("some in " + text, x.rests(0, 1, 0) >= 1);
                    check.holds("a first one in " + text, x.rests(0, 1, 1) >= 0);
                }
            }
        }
    }

    @Says("each has 3, if it is as LOUD as he needs, less 1, if it CLAPS")
    static void promise23_justAsLoudAsHeNeeds() {
        // Just enough with both: neither leaves, and alone neither comes.
        rests("HP3D0030D5030D9030", 0, 1, 2, 0);
        // One more than enough: one of them stays away.
        rests("HP2D0030D5030D9030", 0, 1, 2, 1);
        // Enough without both.
        rests("HP1D0030D5030D9030", 0, 1, 1, 0);
    }

    @Says("each is there (1), or not (0) (others as they are)")
    static void promise23_whoIsAwayHushesNobody() {
        rests("HP1D0030D1013", 0, 1, 2, 1);
        // With the hisser there it is all one whether the plain one is; away, it comes and claps.
        rests("HP1D0013D1030", 0, 1, 2, 1);
    }

    @Says("RESTS of two HANDS for a PLAYER of whom both are fond")
    static void promise23_aDeadOnesAreToldToo() {
        LastBows x = Check.house("HP3D0030D5030");
        x.call(0);
        check.due("rests(0, 1, 0)", x.rests(0, 1, 0), 1);
    }

    @Says({"In what follows nothing is changed.", "What is refused changes nothing."})
    static void promise23_nothingIsChanged() {
        Twins.changeNothing(check, x -> {
            check.due("unknown", x.rests(0, 4, 0), LastBows.UNKNOWN);
            check.due("bad", x.rests(0, 0, 0), LastBows.BAD);
            check.due("late", x.rests(0, 1, 0), LastBows.LATE);
            x.rests(0, 2, 0);
            x.rests(2, 0, 1);
        });
    }

    // ---- promise 24: away

    @Says("AWAY. UNKNOWN; BAD: x.")
    static void promise24_aPlayerNotToldIsUnknown() {
        LastBows x = Check.house("HP1P1P1D0230");
        check.due("away(2, 0)", x.away(2, 0, true), 1);
        check.due("away(3, 0)", x.away(3, 0, true), LastBows.UNKNOWN);
        check.due("away(-1, 0)", x.away(-1, 0, false), LastBows.UNKNOWN);
        for (int far : Check.FAR) {
            check.due("away(" + far + ", 0)", x.away(far, 0, true), LastBows.UNKNOWN);
        }
        check.due("away(1, 0) of one", Check.house("HP1").away(1, 0, true), LastBows.UNKNOWN);
    }

    @Says({"each HAND stays away by x tenths (0 .. 10)", "BAD: x."})
    static void promise24_xBelow0OrAbove10IsBad() {
        LastBows x = Check.house("HP1D0030");
        check.due("x -1", x.away(0, -1, true), LastBows.BAD);
        check.due("x 0", x.away(0, 0, true), 1);
        check.due("x 10", x.away(0, 10, true), 0);
        check.due("x 11", x.away(0, 11, false), LastBows.BAD);
        for (int far : Check.FAR) {
            check.due("x " + far, x.away(0, far, true), LastBows.BAD);
        }
    }

    @Says({"Of several what is told first.", "UNKNOWN; BAD: x."})
    static void promise24_unknownIsAheadOfBad() {
        LastBows x = Check.house("HP1D0030");
        check.due("away(1, 11)", x.away(1, 11, true), LastBows.UNKNOWN);
        check.due("away(-1, -1)", x.away(-1, -1, false), LastBows.UNKNOWN);
    }

    @Says("each HAND stays away by x tenths (0 .. 10)")
    static void promise24_by0TenthsAllAreThere() {
        away("HP1D0030", 0, 1, 1);
        away("HP7" + SEVEN_PLAIN, 0, 1, 1);
        away("HP2D0030", 0, 0, 1);
    }

    @Says("each HAND stays away by x tenths (0 .. 10)")
    static void promise24_by10TenthsNobodyIsThere() {
        away("HP1D0030", 10, 0, 1);
        away("HP1" + SEVEN_PLAIN, 10, 0, 1);
    }

    @Says("that it is as LOUD for a PLAYER as he needs: a FRACTION.")
    static void promise24_withoutHandsItIs0Of1() {
        away("HP1", 0, 0, 1);
        away("HP1", 5, 0, 1);
        away("HP1", 10, 0, 1);
    }

    @Says("FRACTIONS are told above (upper = true; less than 0, if they are), below, in least terms.")
    static void promise24_itIsInLeastTerms() {
        away("HP1D0030", 1, 9, 10);
        away("HP1D0030", 9, 1, 10);
        away("HP1D0030", 4, 3, 5);
        away("HP1D0030", 5, 1, 2);
        // One that can't clap changes nothing, nor is it told below.
        away("HP1D0030D5010", 3, 7, 10);
    }

    @Says("each HAND stays away by x tenths (0 .. 10), by itself")
    static void promise24_sevenHandsAreOfTenMillions() {
        away("HP7" + SEVEN_PLAIN, 1, 4782969, 10000000);
        away("HP7" + SEVEN_PLAIN, 9, 1, 10000000);
        away("HP1" + SEVEN_PLAIN, 1, 9999999, 10000000);
        away("HP1" + SEVEN_PLAIN, 9, 5217031, 10000000);
    }

    @Says("each HAND stays away by x tenths (0 .. 10), by itself")
    static void promise24_whoIsAwayHushesNobodyAndSilencesNobody() {
        away("HP1D0030D1013", 5, 1, 4);
        // The lonely one claps if the plain one is away, so either is enough.
        away("HP1D0030D5012", 5, 3, 4);
        // Both needed: never together.
        away("HP2D0030D5012", 5, 0, 1);
    }

    @Says("that it is as LOUD for a PLAYER as he needs: a FRACTION.")
    static void promise24_aDeadOnesIsToldToo() {
        LastBows x = Check.house("HP1D0020");
        x.call(0);
        x.flowers(0);
        check.due("above", x.away(0, 3, true), 7);
        check.due("below", x.away(0, 3, false), 10);
    }

    @Says({"In what follows nothing is changed.", "What is refused changes nothing."})
    static void promise24_nothingIsChanged() {
        Twins.changeNothing(check, x -> {
            x.away(0, 5, true);
            x.away(1, 5, false);
            check.due("unknown", x.away(3, 5, true), LastBows.UNKNOWN);
            check.due("bad", x.away(0, 11, true), LastBows.BAD);
        });
    }

    // ---- promise 25: seed

    @Says("(THE SEED, a long; 0 at first)")
    static void promise25_anyLongIsASeed() {
        LastBows x = new LastBows();
        check.due("at first", x.seed(Long.MIN_VALUE), 0);
        check.due("the least", x.seed(Long.MAX_VALUE), Long.MIN_VALUE);
        check.due("the most", x.seed(-1), Long.MAX_VALUE);
        check.due("-1", x.seed(1L << 32), -1);
        check.due("beyond 32 bits", x.seed(0), 1L << 32);
        check.due("0", x.seed(0), 0);
    }

    @Says("THE SEED is v: what it was.")
    static void promise25_theSameSeedTwice() {
        LastBows x = new LastBows();
        x.seed(5);
        check.due("the same", x.seed(5), 5);
        check.due("once more", x.seed(5), 5);
    }

    @Says("THE SEED is v: what it was.")
    static void promise25_nothingElseIsChanged() {
        Twins.changeNothing(check, x -> {
            check.due("seed", x.seed(Long.MIN_VALUE), 77);
            check.due("seed back", x.seed(77), Long.MIN_VALUE);
        });
    }

    // ---- promise 26: seasons

    @Says({"m times (1 .. 30)", "SEASONS. BAD: m."})
    static void promise26_mBelow1OrAbove30IsBad() {
        LastBows x = Check.house("HP1D0030");
        x.call(0);
        x.call(0);
        check.due("m -1", x.seasons(-1), LastBows.BAD);
        check.due("m 0", x.seasons(0), LastBows.BAD);
        check.due("m 1", x.seasons(1), 1);
        check.due("m 30", x.seasons(30), 30);
        check.due("m 31", x.seasons(31), LastBows.BAD);
        for (int far : Check.FAR) {
            check.due("m " + far, x.seasons(far), LastBows.BAD);
        }
    }

    @Says("What is refused changes nothing.")
    static void promise26_whatIsRefusedChangesNothing() {
        Twins.changeNothing(check, x -> {
            check.due("m 0", x.seasons(0), LastBows.BAD);
            check.due("m 31", x.seasons(31), LastBows.BAD);
        });
    }

    @Says("(Nothing changes but THE SEED.)")
    static void promise26_nothingChangesButTheSeed() {
        Twins.changeNothing(check, x -> {
            for (int times = 0; times < 5; times++) {
                x.seasons(30);
            }
            check.due("the seed", x.seed(77), Lots.behind(77, 150));
        });
    }

    @Says("m times (1 .. 30) x (THE SEED, a long; 0 at first) becomes x times 6364136223846793005 and 1442695040888963407")
    static void promise26_theSeedBecomesAnotherMTimes() {
        LastBows x = new LastBows();
        x.seasons(1);
        check.due("from 0, once", x.seed(0), 1442695040888963407L);
        x.seasons(30);
        check.due("from 0, 30 times", x.seed(0), Lots.behind(0, 30));
        x.seasons(15);
        x.seasons(15);
        check.due("15 and 15 times", x.seed(0), Lots.behind(0, 30));
    }

    @Says("(64 bits, wrapping)")
    static void promise26_theSeedWrapsAround() {
        LastBows x = new LastBows();
        for (long seed : new long[] {Long.MAX_VALUE, Long.MIN_VALUE, -1, 2, 1L << 32, 3}) {
            x.seed(seed);
            x.seasons(1);
            check.due("behind " + seed, x.seed(0), Lots.behind(seed, 1));
        }
    }

    @Says("what is left of its upper 31 bits by 24")
    static void promise26_theUpper31BitsAreToldLowerOnesAreNot() {
        LastBows x = Check.house("HP1P1D0090");
        check.due("all lower bits: 0, he is called", seasonTo(x, (1L << 33) - 1), 1);
        check.due("the least upper bit: 1, the other is", seasonTo(x, 1L << 33), 0);
        check.due("no bits: 0", seasonTo(x, 0), 1);
        check.due("three: he is called", seasonTo(x, 3L << 33), 1);
        check.due("24: as 0", seasonTo(x, 24L << 33), 1);
        check.due("23: a night", seasonTo(x, 23L << 33), 0);
    }

    @Says("what is left of its upper 31 bits by 24")
    static void promise26_theHighestBitIsNoSign() {
        LastBows x = Check.house("HP1P1D0090");
        // 2^30 and 8 is a multiple of 24; taken for a sign the highest bit would make it another lot.
        check.due("the highest bit", seasonTo(x, ((1L << 30) + 8) << 33), 1);
        check.due("and 3", seasonTo(x, ((1L << 30) + 11) << 33), 1);
        check.due("and 1", seasonTo(x, ((1L << 30) + 9) << 33), 0);
        // 2^31 - 8 is one, too.
        check.due("nearly all bits", seasonTo(x, ((1L << 31) - 8) << 33), 1);
    }

    @Says("0 .. 5 that by 3 (what is left) is a PLAYER that is CALLED")
    static void promise26_lots0To5CallPlayers0To2() {
        for (int player = 0; player < 3; player++) {
            LastBows x = Check.house("HP1P1P1D5" + player + "90");
            for (int lot = 0; lot <= 5; lot++) {
                check.due("lot " + lot, Lots.seasonsBy(x, lot), lot % 3 == player ? 1 : 0);
            }
            check.due("lot 6", Lots.seasonsBy(x, 6), 0);
        }
    }

    @Says("is a PLAYER that is CALLED, if there is such a one that is not DEAD;")
    static void promise26_whereThereIsNoSuchPlayerNobodyIsCalled() {
        LastBows nobody = new LastBows();
        LastBows one = Check.house("HP1D0090");
        LastBows two = Check.house("HP1P1D0090D5190");
        for (int lot = 0; lot <= 5; lot++) {
            check.due("of none, lot " + lot, Lots.seasonsBy(nobody, lot), 0);
            check.due("of one, lot " + lot, Lots.seasonsBy(one, lot), lot % 3 == 0 ? 1 : 0);
            check.due("of two, lot " + lot, Lots.seasonsBy(two, lot), lot % 3 == 2 ? 0 : 1);
        }
    }

    @Says("is a PLAYER that is CALLED, if there is such a one that is not DEAD;")
    static void promise26_aDeadOneIsNotCalled() {
        LastBows x = Check.house("HP1D0020");
        check.due("too weak, then flowers, then called", Lots.seasonsBy(x, 0, 6, 0), 0);
        check.due("flowers, then called", Lots.seasonsBy(x, 6, 0), 1);
        x.call(0);
        check.due("dead ahead of the seasons", Lots.seasonsBy(x, 6, 0), 0);
    }

    @Says("is a PLAYER that is CALLED")
    static void promise26_whoClappedHas1LessInTheNextSeason() {
        LastBows x = Check.house("HP1D0030");
        check.due("called, and called in vain", Lots.seasonsBy(x, 0, 3), 1 + 1);
    }

    @Says("6 .. 8 that less 6 PLAYER has FLOWERS;")
    static void promise26_lots6To8AreFlowersForPlayers0To2() {
        for (int player = 0; player < 3; player++) {
            LastBows x = Check.house("HP1P1P1D5" + player + "20");
            for (int lot = 6; lot <= 8; lot++) {
                check.due("lot " + lot, Lots.seasonsBy(x, lot, player), lot - 6 == player ? 1 : 0);
            }
        }
    }

    @Says("6 .. 8 that less 6 PLAYER has FLOWERS;")
    static void promise26_flowersAreOneMoreEach() {
        LastBows x = Check.house("HP1D0010");
        check.due("one", Lots.seasonsBy(x, 6, 0), 0);
        check.due("two", Lots.seasonsBy(x, 6, 6, 0), 1);
    }

    @Says("6 .. 8 that less 6 PLAYER has FLOWERS;")
    static void promise26_flowersForNobodyChangeNothing() {
        LastBows x = Check.house("HP1D0020");
        check.due("of 1", Lots.seasonsBy(x, 7, 0), 0);
        check.due("of 2", Lots.seasonsBy(x, 8, 0), 0);
    }

    @Says("9 .. 18 HAND 0 is SEATED at that less 9 SEAT, if it can be;")
    static void promise26_lots9To18SeatHand0At0To9() {
        for (int seat = 0; seat <= 9; seat++) {
            int beside = seat == 9 ? 8 : seat + 1;
            int apart = seat < 5 ? 7 : 2;
            // The usher claps only if the plain one, hand 0, has come beside it.
            LastBows x = Check.house("HP2D" + apart + "050D" + beside + "091");
            check.due("seat " + seat, Lots.seasonsBy(x, 9 + seat, 0), 1);
            check.due("not seated", Lots.seasonsBy(x, 0), 0);
        }
    }

    @Says("9 .. 18 HAND 0 is SEATED at that less 9 SEAT, if it can be;")
    static void promise26_lot8And19SeatNobody() {
        LastBows first = Check.house("HP2D5050D1091");
        check.due("8 does not seat it", Lots.seasonsBy(first, 8, 0), 0);
        LastBows last = Check.house("HP2D5050D8091");
        check.due("19 does not seat it", Lots.seasonsBy(last, 19, 0), 0);
    }

    @Says("9 .. 18 HAND 0 is SEATED at that less 9 SEAT, if it can be;")
    static void promise26_aTakenSeatLeavesHand0WhereItIs() {
        LastBows x = Check.house("HP2P1D4050D5091D8190");
        check.due("a taken one", Lots.seasonsBy(x, 9 + 8, 0), 1);
        check.due("its own", Lots.seasonsBy(x, 9 + 4, 0), 1);
        check.due("a free one", Lots.seasonsBy(x, 9 + 7, 0), 0);
        check.due("the one that it left", Lots.seasonsBy(x, 9 + 7, 9 + 4, 0), 1);
    }

    @Says("9 .. 18 HAND 0 is SEATED at that less 9 SEAT, if it can be;")
    static void promise26_withoutHandsNobodyIsSeated() {
        LastBows x = Check.house("HP1");
        for (int lot = 9; lot <= 18; lot++) {
            check.due("lot " + lot, Lots.seasonsBy(x, lot), 0);
        }
        check.due("taken", x.about(4), 0);
    }

    @Says("19 .. 23 A NIGHT:")
    static void promise26_lots19To23AreNights() {
        LastBows x = Check.house("HP1D0030");
        for (int lot = 19; lot <= 23; lot++) {
            check.due("lot " + lot, Lots.seasonsBy(x, 0, lot, 0), 1 + 1 + 2);
        }
        check.due("18 is none", Lots.seasonsBy(x, 0, 18, 0), 1 + 1 + 1);
    }

    @Says("behind each of these times how often all were CALLED by then (earlier ones, too), all added.")
    static void promise26_earlierCallsCountBehindEachTime() {
        LastBows x = Check.house("HP1P1P1D0090D4190D8290");
        x.call(0);
        x.call(0);
        x.call(1);
        x.call(2);
        check.due("once, a night", Lots.seasonsBy(x, 20), 4);
        check.due("a call first", Lots.seasonsBy(x, 2, 20), 5 + 5);
        check.due("a call last", Lots.seasonsBy(x, 20, 2), 4 + 5);
    }

    @Says("behind each of these times how often all were CALLED by then (earlier ones, too), all added.")
    static void promise26_aDeadOnesEarlierCallsCountToo() {
        LastBows x = Check.house("HP1D0030");
        x.call(0);
        x.call(0);
        check.due("dead", x.about(3), 1);
        check.due("30 times", x.seasons(30), 30);
    }

    private static void rests(String text, int one, int other, int howMany, int first) {
        LastBows x = Check.house(text);
        check.due("how many in " + text, x.rests(one, other, 0), howMany);
        check.due("the first in " + text, x.rests(one, other, 1), first);
    }

    private static void away(String text, int tenths, int above, int below) {
        LastBows x = Check.house(text);
        check.due("above by " + tenths + " in " + text, x.away(0, tenths, true), above);
        check.due("below by " + tenths + " in " + text, x.away(0, tenths, false), below);
    }

    /** One season in which the seed becomes x. */
    private static int seasonTo(LastBows bows, long x) {
        bows.seed(Lots.seedAheadOf(x));
        return bows.seasons(1);
    }
}
