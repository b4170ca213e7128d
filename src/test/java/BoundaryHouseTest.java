/** The boundaries of promises 6 to 8: what is told of the house, of a player, of a hand. */
public final class BoundaryHouseTest {
    private static final Check check = new Check();

    public static void main(String[] args) throws IllegalAccessException {
        Boundaries.run(BoundaryHouseTest.class, check);
    }

    // ---- promise 6: about

    @Says("bytes of THE TEXT (9). BAD.")
    static void promise06_whatBelow0OrAbove9IsBad() {
        LastBows x = Twins.lived();
        check.due("about(-1)", x.about(-1), LastBows.BAD);
        check.due("about(10)", x.about(10), LastBows.BAD);
        for (int far : Check.FAR) {
            check.due("about(" + far + ")", x.about(far), LastBows.BAD);
        }
    }

    @Says({"PLAYERS (what = 0)", "PLAYERS are 0, 1, 2 (3 at most)"})
    static void promise06_playersAre0To3() {
        check.due("none", Check.house("H").about(0), 0);
        check.due("the most", Check.house("HP1P1P1").about(0), 3);
    }

    @Says({"HANDS (1)", "HANDS 0, 1, .. (7 at most)"})
    static void promise06_handsAre0To7() {
        check.due("none", Check.house("HP1").about(1), 0);
        check.due("the most", Check.house("HP1D0010D1010D2010D3010D4010D5010D6010").about(1), 7);
    }

    @Says({"THE NIGHT (2)", "THE NIGHT is one more."})
    static void promise06_theNightIs0AndOneMoreBehindEach() {
        LastBows x = Check.house("H");
        check.due("at first", x.about(2), 0);
        x.night();
        check.due("behind one", x.about(2), 1);
        for (int night = 2; night <= 400; night++) {
            x.night();
        }
        check.due("behind 400", x.about(2), 400);
    }

    @Says("who is DEAD (3: bits)")
    static void promise06_deadAreNoneOneOrAllBits() {
        LastBows x = Check.house("HP7P7P7");
        check.due("none", x.about(3), 0);
        x.call(2);
        check.due("the last", x.about(3), 4);
        x.call(0);
        x.call(1);
        check.due("all", x.about(3), 7);
    }

    @Says("SEATS that are taken (4: bits)")
    static void promise06_takenSeatsAreBits0To9() {
        check.due("none", Check.house("HP1").about(4), 0);
        check.due("the first", Check.house("HP1D0010").about(4), 1);
        check.due("the last", Check.house("HP1D9010").about(4), 512);
        check.due("seven", Check.house("HP1D9010D8010D7010D6010D5010D4010D3010").about(4), 1023 - 7);
    }

    @Says("VIGOUR of all HANDS (5)")
    static void promise06_vigourOfAllIs0To63() {
        check.due("nobody", Check.house("HP1").about(5), 0);
        check.due("the most", Check.house("HP1D0090D1090D2090D3090D4090D5090D6090").about(5), 63);
        LastBows spent = Check.house("HP1D0012");
        spent.call(0);
        check.due("spent", spent.about(5), 0);
    }

    @Says("who is HUSHED (6: bits)")
    static void promise06_hushedAreBitsOfHandsNotOfSeats() {
        check.due("none", Check.house("HP1D0010D5013").about(6), 0);
        check.due("the first hand", Check.house("HP1D9010D8013").about(6), 1);
        check.due("the last hand", Check.house("HP1D1013D9010D8010D7010D6010D5010D0010").about(6), 64);
    }

    @Says({"ACTS (7)", "are a row (14 at most; when it is full, the first one is forgotten)"})
    static void promise06_actsAre0To14() {
        LastBows x = Check.house("H");
        check.due("none", x.about(7), 0);
        for (int act = 1; act <= 14; act++) {
            x.night();
            check.due("acts", x.about(7), act);
        }
        x.night();
        check.due("behind the 15th", x.about(7), 14);
    }

    @Says({"HEARD (8)", "6 such at most"})
    static void promise06_heardAre0To6() {
        LastBows x = new LastBows();
        check.due("none", x.about(8), 0);
        for (int i = 0; i < 7; i++) {
            x.hear(0, 0, 1);
        }
        check.due("the most", x.about(8), 6);
    }

    @Says({"bytes of THE TEXT (9)", "THE TEXT is bytes (48 at most)."})
    static void promise06_bytesAre0To48() {
        LastBows x = new LastBows();
        check.due("none", x.about(9), 0);
        for (int i = 0; i < 50; i++) {
            x.write(0);
        }
        check.due("the most", x.about(9), 48);
    }

    @Says("What is refused changes nothing.")
    static void promise06_toAskChangesNothing() {
        Twins.changeNothing(check, x -> {
            for (int what = -1; what <= 10; what++) {
                x.about(what);
            }
            check.due("about(-1)", x.about(-1), LastBows.BAD);
        });
    }

    // ---- promise 7: player

    @Says({"UNKNOWN; BAD.", "UNKNOWN -1 (there is no such PLAYER, HAND, SEAT, SLOT)"})
    static void promise07_aPlayerNotToldIsUnknown() {
        LastBows two = Check.house("HP1P1");
        check.due("the last one told", two.player(1, 0), 1);
        check.due("player(2, 0)", two.player(2, 0), LastBows.UNKNOWN);
        LastBows three = Check.house("HP1P1P1");
        check.due("the last one there can be", three.player(2, 0), 1);
        check.due("player(3, 0)", three.player(3, 0), LastBows.UNKNOWN);
        check.due("player(-1, 0)", three.player(-1, 0), LastBows.UNKNOWN);
        for (int far : Check.FAR) {
            check.due("player(" + far + ", 0)", three.player(far, 0), LastBows.UNKNOWN);
        }
    }

    @Says("1 if he is DEAD (4). UNKNOWN; BAD.")
    static void promise07_whatBelow0OrAbove4IsBad() {
        LastBows x = Check.house("HP1");
        check.due("player(0, -1)", x.player(0, -1), LastBows.BAD);
        check.due("player(0, 4)", x.player(0, 4), 0);
        check.due("player(0, 5)", x.player(0, 5), LastBows.BAD);
        for (int far : Check.FAR) {
            check.due("player(0, " + far + ")", x.player(0, far), LastBows.BAD);
        }
    }

    @Says({"Of several what is told first.", "UNKNOWN; BAD."})
    static void promise07_unknownIsAheadOfBad() {
        LastBows x = Check.house("HP1");
        check.due("player(1, 5)", x.player(1, 5), LastBows.UNKNOWN);
        check.due("player(-1, -1)", x.player(-1, -1), LastBows.UNKNOWN);
    }

    @Says("What is refused changes nothing.")
    static void promise07_toAskChangesNothing() {
        Twins.changeNothing(check, x -> {
            check.due("unknown", x.player(3, 0), LastBows.UNKNOWN);
            check.due("bad", x.player(0, 5), LastBows.BAD);
            x.player(0, 2);
            x.player(1, 3);
        });
    }

    @Says({"how many HANDS he needs (what = 0)", "Pc a PLAYER that needs c (1 .. 7) HANDS"})
    static void promise07_heNeeds1To7() {
        LastBows x = Check.house("HP1P7");
        check.due("the least", x.player(0, 0), 1);
        check.due("the most", x.player(1, 0), 7);
    }

    @Says("how often he was CALLED (1)")
    static void promise07_heWasCalled0To16Times() {
        LastBows x = Check.house("HP1D0090D5092");
        check.due("at first", x.player(0, 1), 0);
        for (int call = 1; call <= 17; call++) {
            x.call(0);
        }
        check.due("till nobody claps", x.player(0, 1), 16);
        check.due("and dead", x.player(0, 4), 1);
    }

    @Says("For a PLAYER, HANDS that are fond of him CLAP, others do not.")
    static void promise07_othersHandsDoNotClap() {
        LastBows x = Check.house("HP1P1P1D0190D5290");
        check.due("for 0", x.player(0, 2), 0);
        check.due("for 1", x.player(1, 2), 1);
        check.due("for 2", x.player(2, 2), 2);
    }

    @Says("PLAIN: it CLAPS, if its VIGOUR is 3 or more.")
    static void promise07_aPlainOneClapsFrom3() {
        claps("HP1D0010", 0);
        claps("HP1D0020", 0);
        claps("HP1D0030", 1);
        claps("HP1D0090", 1);
    }

    @Says("USHER: of VIGOUR 1 or more, if a HAND beside it CLAPS")
    static void promise07_anUsherClapsFrom1() {
        claps("HP1D0090D1011", 3);
        LastBows x = Check.house("HP1D0090D1011");
        x.call(0);
        check.due("its vigour", x.hand(1, 4), 0);
        check.due("an usher of 0", x.player(0, 2), 1);
    }

    @Says("USHER: of VIGOUR 1 or more, if a HAND beside it CLAPS")
    static void promise07_anUsherTwoSeatsOffDoesNotClap() {
        claps("HP1D4090D5091D3091", 7);
        claps("HP1D4090D6091D2091", 1);
    }

    @Says("(a PLAIN one, or an USHER that CLAPS by another one, and so on)")
    static void promise07_ushersClapAllAlongTheRow() {
        claps("HP1D0030D1011D2011D3011D4011D5011D6011", 127);
        claps("HP1D9030D8011D7011D6011D5011D4011D3011", 127);
        claps("HP1D3011D4011D5011D6011D7011D8011D9030", 127);
    }

    @Says("(a PLAIN one, or an USHER that CLAPS by another one, and so on)")
    static void promise07_ushersAloneDoNotClap() {
        claps("HP1D0091D1091D2091", 0);
        claps("HP1D0091D1020D2091", 0);
    }

    @Says("(a PLAIN one, or an USHER that CLAPS by another one, and so on)")
    static void promise07_anUsherDoesNotClapByALonelyOne() {
        claps("HP1D0092D1091", 1);
    }

    @Says({"USHER: of VIGOUR 1 or more, if a HAND beside it CLAPS",
        "For a PLAYER, HANDS that are fond of him CLAP, others do not."})
    static void promise07_anUsherDoesNotClapByAnothersHand() {
        claps("HP1P1D0190D1091", 0);
        claps("HP1P1D0090D1191D2091", 1);
    }

    @Says("9 in a row (0 is beside 1 alone, 9 beside 8)")
    static void promise07_theRowIsNoRing() {
        claps("HP1D0090D9091", 1);
        claps("HP1D9090D0091", 1);
    }

    @Says("LONELY: of VIGOUR 1 or more, if no PLAIN one and no USHER CLAPS.")
    static void promise07_aLonelyOneClapsFrom1() {
        claps("HP1D0012", 1);
        LastBows x = Check.house("HP1D0012");
        x.call(0);
        check.due("its vigour", x.hand(0, 4), 0);
        check.due("a lonely one of 0", x.player(0, 2), 0);
    }

    @Says("LONELY: of VIGOUR 1 or more, if no PLAIN one and no USHER CLAPS.")
    static void promise07_aLonelyOneDoesNotClapWithAPlainOneHoweverFar() {
        claps("HP1D0092D9030", 2);
        claps("HP1D0092D9020", 1);
    }

    @Says("LONELY: of VIGOUR 1 or more, if no PLAIN one and no USHER CLAPS.")
    static void promise07_lonelyOnesClapAllAtOnce() {
        claps("HP1D0012D1012D2012D3012D4012D5012D6012", 127);
    }

    @Says("LONELY: of VIGOUR 1 or more, if no PLAIN one and no USHER CLAPS.")
    static void promise07_aLonelyOneClapsWhenThePlainOneIsHushed() {
        claps("HP1D0090D1013D9012", 4);
    }

    @Says({"LONELY: of VIGOUR 1 or more, if no PLAIN one and no USHER CLAPS.",
        "For a PLAYER, HANDS that are fond of him CLAP, others do not."})
    static void promise07_aLonelyOneClapsWhenOthersClapForAnother() {
        claps("HP1P1D0012D9190", 1);
    }

    @Says("a HISSER is not HUSHED, and never CLAPS")
    static void promise07_aHisserNeverClaps() {
        claps("HP1D0093", 0);
        claps("HP1D4090D6093", 1);
    }

    @Says("Who is HUSHED does not: that is each HAND that is beside the SEAT of a HISSER of VIGOUR 1 or more")
    static void promise07_beside1VigourOfAHisserNobodyClaps() {
        claps("HP1D0090D1013", 0);
        claps("HP1D0012D1013", 0);
        claps("HP1D0090D1091D2013", 1);
        claps("HP1D0090D2013", 1);
    }

    @Says("LOUD: how many CLAP.")
    static void promise07_itIs0To7Loud() {
        check.due("none", Check.house("HP1").player(0, 3), 0);
        check.due("all", Check.house("HP1D0030D1030D2030D3030D4030D5030D6030").player(0, 3), 7);
    }

    @Says("1 if he is DEAD (4)")
    static void promise07_dead0Or1() {
        LastBows x = Check.house("HP1P7D0090");
        x.call(0);
        x.call(1);
        check.due("he came", x.player(0, 4), 0);
        check.due("he did not", x.player(1, 4), 1);
    }

    // ---- promise 8: hand

    @Says({"UNKNOWN; BAD.", "UNKNOWN -1 (there is no such PLAYER, HAND, SEAT, SLOT)"})
    static void promise08_aHandNotToldIsUnknown() {
        LastBows two = Check.house("HP1D0010D1010");
        check.due("the last one told", two.hand(1, 0), 1);
        check.due("hand(2, 0)", two.hand(2, 0), LastBows.UNKNOWN);
        LastBows seven = Check.house("HP1D0010D1010D2010D3010D4010D5010D6010");
        check.due("the last one there can be", seven.hand(6, 0), 6);
        check.due("hand(7, 0)", seven.hand(7, 0), LastBows.UNKNOWN);
        check.due("hand(-1, 0)", seven.hand(-1, 0), LastBows.UNKNOWN);
        for (int far : Check.FAR) {
            check.due("hand(" + far + ", 0)", seven.hand(far, 0), LastBows.UNKNOWN);
        }
    }

    @Says("1 if it is HUSHED (5). UNKNOWN; BAD.")
    static void promise08_whatBelow0OrAbove5IsBad() {
        LastBows x = Check.house("HP1D0010");
        check.due("hand(0, -1)", x.hand(0, -1), LastBows.BAD);
        check.due("hand(0, 5)", x.hand(0, 5), 0);
        check.due("hand(0, 6)", x.hand(0, 6), LastBows.BAD);
        for (int far : Check.FAR) {
            check.due("hand(0, " + far + ")", x.hand(0, far), LastBows.BAD);
        }
    }

    @Says({"Of several what is told first.", "UNKNOWN; BAD."})
    static void promise08_unknownIsAheadOfBad() {
        LastBows x = Check.house("HP1D0010");
        check.due("hand(1, 6)", x.hand(1, 6), LastBows.UNKNOWN);
        check.due("hand(-1, -1)", x.hand(-1, -1), LastBows.UNKNOWN);
    }

    @Says("What is refused changes nothing.")
    static void promise08_toAskChangesNothing() {
        Twins.changeNothing(check, x -> {
            check.due("unknown", x.hand(4, 0), LastBows.UNKNOWN);
            check.due("bad", x.hand(0, 6), LastBows.BAD);
            x.hand(3, 5);
        });
    }

    @Says({"Of a HAND its SEAT (what = 0)", "SEATS are 0 ..", "9 in a row"})
    static void promise08_itsSeatIs0To9() {
        LastBows x = Check.house("HP1D9010D0010");
        check.due("the last seat", x.hand(0, 0), 9);
        check.due("the first seat", x.hand(1, 0), 0);
    }

    @Says("of whom it is fond (1)")
    static void promise08_itIsFondOf0To2() {
        LastBows x = Check.house("HP1P1P1D9210D0010");
        check.due("the last player", x.hand(0, 1), 2);
        check.due("the first player", x.hand(1, 1), 0);
    }

    @Says({"FONDNESS (2)", "of FONDNESS f (1 .. 9)"})
    static void promise08_itsFondnessIs1To9() {
        LastBows x = Check.house("HP1D9010D0090");
        check.due("the least", x.hand(0, 2), 1);
        check.due("the most", x.hand(1, 2), 9);
        x.flowers(0);
        check.due("flowers do not change it", x.hand(0, 2), 1);
    }

    @Says({"KIND (3)", "of KIND k (0 PLAIN, 1 USHER, 2 LONELY, 3 HISSER)"})
    static void promise08_itsKindIs0To3() {
        LastBows x = Check.house("HP1D0010D2011D4012D6013");
        for (int kind = 0; kind <= 3; kind++) {
            check.due("kind", x.hand(kind, 3), kind);
        }
    }

    @Says({"VIGOUR (4)", "has 1 more VIGOUR (9 at most)"})
    static void promise08_itsVigourIs0To9() {
        LastBows x = Check.house("HP1D0012");
        x.call(0);
        check.due("the least", x.hand(0, 4), 0);
        for (int flowers = 0; flowers < 10; flowers++) {
            x.flowers(0);
        }
        check.due("the most", x.hand(0, 4), 9);
    }

    @Says("9 in a row (0 is beside 1 alone, 9 beside 8)")
    static void promise08_seat0IsBeside1Alone() {
        hushed("HP1D0013D1010D2010D9010", 2);
        hushed("HP1D1013D0010D2010D3010", 6);
    }

    @Says("9 in a row (0 is beside 1 alone, 9 beside 8)")
    static void promise08_seat9IsBeside8Alone() {
        hushed("HP1D9013D8010D7010D0010", 2);
        hushed("HP1D8013D9010D7010D6010", 6);
    }

    @Says("each HAND that is beside the SEAT of a HISSER of VIGOUR 1 or more (fond of whomever;")
    static void promise08_aHisserHushesWhomeverItIsFondOf() {
        hushed("HP1P1D4013D3110D5010", 6);
        hushed("HP1P1D4113D3110D5010", 6);
    }

    @Says("each HAND that is beside the SEAT of a HISSER of VIGOUR 1 or more")
    static void promise08_eachKindButHissersIsHushed() {
        hushed("HP1D1013D0090D2091D4013D5092", 2 + 4 + 16);
    }

    @Says("a HISSER is not HUSHED, and never CLAPS")
    static void promise08_aHisserIsNotHushedBesideAnother() {
        hushed("HP1D4093D5013", 0);
        hushed("HP1D4093D5013D6010D3010", 4 + 8);
    }

    private static void claps(String text, int hands) {
        LastBows x = Check.house(text);
        check.due("who claps in " + text, x.player(0, 2), hands);
        check.due("how loud it is in " + text, x.player(0, 3), Integer.bitCount(hands));
    }

    private static void hushed(String text, int hands) {
        LastBows x = Check.house(text);
        check.due("who is hushed in " + text, x.about(6), hands);
        for (int hand = 0; hand < x.about(1); hand++) {
            check.due("hand " + hand + " in " + text, x.hand(hand, 5), hands >> hand & 1);
        }
    }
}
