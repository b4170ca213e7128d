/** The boundaries of promises 1 to 5: a new object, the text, its fault, the house that it becomes. */
public final class BoundaryTextTest {
    private static final Check check = new Check();
    private static final String LONGEST = "HP1P2P3D0010D1110D2210D3010D4010D5010D6010";

    public static void main(String[] args) throws IllegalAccessException {
        Boundaries.run(BoundaryTextTest.class, check);
    }

    // ---- promise 1: a new object

    @Says({"At first there is nobody.", "An empty house."})
    static void promise01_nobodyIsThereAtFirst() {
        LastBows x = new LastBows();
        for (int what = 0; what <= 9; what++) {
            check.due("about(" + what + ")", x.about(what), 0);
        }
        check.due("player(0, 0)", x.player(0, 0), LastBows.UNKNOWN);
        check.due("hand(0, 0)", x.hand(0, 0), LastBows.UNKNOWN);
    }

    @Says("An empty house.")
    static void promise01_anotherObjectIsEmptyToo() {
        Twins.lived();
        LastBows x = new LastBows();
        check.due("players", x.about(0), 0);
        check.due("bytes", x.about(9), 0);
        check.due("heard", x.about(8), 0);
        check.due("seed", x.seed(1), 0);
        check.due("seed of yet another", new LastBows().seed(1), 0);
    }

    @Says("6 such at most, none at first.")
    static void promise01_nothingIsHeardAtFirst() {
        check.due("unhear()", new LastBows().unhear(), 0);
    }

    @Says("(THE SEED, a long; 0 at first)")
    static void promise01_theSeedIs0AtFirst() {
        check.due("seed(9)", new LastBows().seed(9), 0);
    }

    @Says("An object is used for at most 512 calls after it has been made; what later calls answer is free.")
    static void promise01_the512thCallIsStillAnswered() {
        LastBows x = new LastBows();
        for (int call = 1; call <= 511; call++) {
            check.due("night()", x.night(), 0);
        }
        check.due("the 512th call", x.about(2), 511);
    }

    @Says({"UNKNOWN -1 (there is no such PLAYER, HAND, SEAT, SLOT), BAD -2, LATE -3, FULL -4.", "NONE is -9."})
    static void promise01_refusalsAndNoneAreTheirFigures() {
        check.due("UNKNOWN", LastBows.UNKNOWN, -1);
        check.due("BAD", LastBows.BAD, -2);
        check.due("LATE", LastBows.LATE, -3);
        check.due("FULL", LastBows.FULL, -4);
        check.due("NONE", LastBows.NONE, -9);
        LastBows x = new LastBows();
        check.due("call(0)", x.call(0), -1);
        check.due("about(10)", x.about(10), -2);
        check.due("undo()", x.undo(), -3);
        for (int i = 0; i < 48; i++) {
            x.write('H');
        }
        check.due("write(72)", x.write('H'), -4);
        x.hear(9, 0, 1);
        check.due("whose(1)", x.whose(1), -9);
    }

    // ---- promise 2: write

    @Says("A byte (0 .. 255) comes behind THE TEXT: how long it is.")
    static void promise02_theLeastByteIs0() {
        check.due("write(0)", new LastBows().write(0), 1);
    }

    @Says("A byte (0 .. 255) comes behind THE TEXT: how long it is.")
    static void promise02_theMostByteIs255() {
        check.due("write(255)", new LastBows().write(255), 1);
    }

    @Says("A byte (0 .. 255) comes behind THE TEXT: how long it is. BAD;")
    static void promise02_lessThan0IsBad() {
        LastBows x = new LastBows();
        check.due("write(-1)", x.write(-1), LastBows.BAD);
        check.due("write(-256 + 72)", x.write(-256 + 'H'), LastBows.BAD);
        check.due("write(least)", x.write(Integer.MIN_VALUE), LastBows.BAD);
    }

    @Says("A byte (0 .. 255) comes behind THE TEXT: how long it is. BAD;")
    static void promise02_moreThan255IsBad() {
        LastBows x = new LastBows();
        check.due("write(256)", x.write(256), LastBows.BAD);
        check.due("write(256 + 72)", x.write(256 + 'H'), LastBows.BAD);
        check.due("write(most)", x.write(Integer.MAX_VALUE), LastBows.BAD);
    }

    @Says("THE TEXT is bytes (48 at most).")
    static void promise02_the48thByteIsTaken() {
        LastBows x = written(47);
        check.due("the 48th", x.write('H'), 48);
        check.due("bytes", x.about(9), 48);
    }

    @Says({"THE TEXT is bytes (48 at most).", "FULL: there are 48."})
    static void promise02_the49thByteIsFull() {
        LastBows x = written(48);
        check.due("the 49th", x.write('H'), LastBows.FULL);
        check.due("bytes", x.about(9), 48);
    }

    @Says({"Of several what is told first.", "BAD; FULL: there are 48."})
    static void promise02_badIsAheadOfFull() {
        LastBows x = written(48);
        check.due("write(-1)", x.write(-1), LastBows.BAD);
        check.due("write(256)", x.write(256), LastBows.BAD);
    }

    @Says("FULL: there are 48.")
    static void promise02_behindWipeAFullTextTakesBytesAgain() {
        LastBows x = written(48);
        x.wipe();
        check.due("write", x.write('H'), 1);
    }

    @Says("What is refused changes nothing.")
    static void promise02_whatIsRefusedChangesNothing() {
        Twins.changeNothing(check, x -> {
            check.due("write(-1)", x.write(-1), LastBows.BAD);
            check.due("write(256)", x.write(256), LastBows.BAD);
        });
        Twins.changeNothing(check, filled(), filled(), x -> check.due("full", x.write('H'), LastBows.FULL));
    }

    // ---- promise 3: wipe

    @Says("THE TEXT is empty: how long it was.")
    static void promise03_anEmptyTextWas0Long() {
        LastBows x = new LastBows();
        check.due("wipe()", x.wipe(), 0);
        check.due("bytes", x.about(9), 0);
    }

    @Says("THE TEXT is empty: how long it was.")
    static void promise03_aFullTextWas48Long() {
        LastBows x = written(48);
        check.due("wipe()", x.wipe(), 48);
        check.due("bytes", x.about(9), 0);
        check.due("wipe() again", x.wipe(), 0);
    }

    @Says("THE TEXT is empty: how long it was.")
    static void promise03_theHouseStaysWhenTheTextIsEmpty() {
        LastBows x = Check.house("HP1D0090");
        x.call(0);
        x.wipe();
        check.due("players", x.about(0), 1);
        check.due("hands", x.about(1), 1);
        check.due("vigour", x.about(5), 8);
        check.due("acts", x.about(7), 1);
    }

    // ---- promise 4: fault

    @Says("its length, if it is only not at its end")
    static void promise04_anEmptyTextIsNotAtItsEnd() {
        faultOf("", 0);
    }

    @Says({"H, then THINGS, none or more", "NONE: none."})
    static void promise04_noThingsAreAHouse() {
        faultOf("H", LastBows.NONE);
    }

    @Says({"H, then THINGS, none or more", "FAULT: the place (from 0) of the first byte by which THE TEXT can be no HOUSE"})
    static void promise04_whatBeginsOtherwiseHasItsFaultAt0() {
        faultOf("h", 0);
        faultOf("P1", 0);
        faultOf("D0010", 0);
        faultOf(" H", 0);
    }

    @Says("H, then THINGS, none or more")
    static void promise04_aSecondHIsAFault() {
        faultOf("HH", 1);
        faultOf("HP1H", 3);
    }

    @Says("Pc a PLAYER that needs c (1 .. 7) HANDS")
    static void promise04_theLeastNeedIs1() {
        faultOf("HP1", LastBows.NONE);
        faultOf("HP0", 2);
        faultOf("HP/", 2);
    }

    @Says("Pc a PLAYER that needs c (1 .. 7) HANDS")
    static void promise04_theMostNeedIs7() {
        faultOf("HP7", LastBows.NONE);
        faultOf("HP8", 2);
        faultOf("HP9", 2);
    }

    @Says("PLAYERS are 0, 1, 2 (3 at most)")
    static void promise04_theThirdPlayerIsNoFault() {
        faultOf("HP1P1P1", LastBows.NONE);
    }

    @Says("PLAYERS are 0, 1, 2 (3 at most)")
    static void promise04_theFourthPlayerIsAFaultAtItsP() {
        faultOf("HP1P1P1P", 7);
        faultOf("HP1P1P1P1", 7);
        faultOf("HP1P1D0010P1D1010P1", 17);
    }

    @Says("HANDS 0, 1, .. (7 at most)")
    static void promise04_theSeventhHandIsNoFault() {
        faultOf("HP1D0010D1010D2010D3010D4010D5010D6010", LastBows.NONE);
    }

    @Says("HANDS 0, 1, .. (7 at most)")
    static void promise04_theEighthHandIsAFaultAtItsD() {
        faultOf("HP1D0010D1010D2010D3010D4010D5010D6010D", 38);
        faultOf("HP1D0010D1010D2010D3010D4010D5010D6010D7010", 38);
        faultOf("HP1D0010D1010D2010D3010D4010D5010D6010P1D7", 40);
    }

    @Says("fond of PLAYER p (told ahead)")
    static void promise04_aHandAheadOfAllPlayersIsAFaultAtItsD() {
        faultOf("HD", 1);
        faultOf("HD0010P1", 1);
    }

    @Says({"SEATS are 0 ..", "9 in a row", "a pair of HANDS (a HAND) at SEAT s"})
    static void promise04_seatsAre0To9() {
        faultOf("HP1D0010", LastBows.NONE);
        faultOf("HP1D9010", LastBows.NONE);
        faultOf("HP1D/010", 4);
        faultOf("HP1D:010", 4);
    }

    @Says("at SEAT s (where none is told yet)")
    static void promise04_aSeatToldTwiceIsAFault() {
        faultOf("HP1D0010D0", 9);
        faultOf("HP1D9010D0010D9", 14);
        faultOf("HP1D9010D8010", LastBows.NONE);
    }

    @Says("fond of PLAYER p (told ahead)")
    static void promise04_aPlayerToldOnlyBehindIsAFault() {
        faultOf("HP1D0110P1", 5);
        faultOf("HP1P1D0210P1", 7);
        faultOf("HP1D0/", 5);
    }

    @Says("fond of PLAYER p (told ahead)")
    static void promise04_theLastPlayerToldIsNoFault() {
        faultOf("HP1P1P1D0210", LastBows.NONE);
        faultOf("HP1D0010P1D1110P1D2210", LastBows.NONE);
    }

    @Says({"fond of PLAYER p (told ahead)", "PLAYERS are 0, 1, 2 (3 at most)"})
    static void promise04_player3IsAFault() {
        faultOf("HP1P1P1D0310", 9);
    }

    @Says("of FONDNESS f (1 .. 9)")
    static void promise04_theLeastFondnessIs1() {
        faultOf("HP1D0010", LastBows.NONE);
        faultOf("HP1D0000", 6);
        faultOf("HP1D00/0", 6);
    }

    @Says("of FONDNESS f (1 .. 9)")
    static void promise04_theMostFondnessIs9() {
        faultOf("HP1D0090", LastBows.NONE);
        faultOf("HP1D00:0", 6);
    }

    @Says("of KIND k (0 PLAIN, 1 USHER, 2 LONELY, 3 HISSER)")
    static void promise04_theLeastKindIs0() {
        faultOf("HP1D0010", LastBows.NONE);
        faultOf("HP1D001/", 7);
    }

    @Says("of KIND k (0 PLAIN, 1 USHER, 2 LONELY, 3 HISSER)")
    static void promise04_theMostKindIs3() {
        faultOf("HP1D0013", LastBows.NONE);
        faultOf("HP1D0014", 7);
    }

    @Says("its length, if it is only not at its end")
    static void promise04_aTextCutInAThingHasItsFaultAtItsLength() {
        faultOf("HP", 2);
        faultOf("HP1D", 4);
        faultOf("HP1D0", 5);
        faultOf("HP1D00", 6);
        faultOf("HP1D001", 7);
        faultOf("HP1D0010P", 9);
        faultOf("HP1D0010D", 9);
    }

    @Says("its length, if it is only not at its end")
    static void promise04_whatWasWipedIsBehindNoCutText() {
        String whole = "HP1D0010";
        for (int length = 0; length < whole.length(); length++) {
            LastBows x = new LastBows();
            Check.tell(x, whole);
            Check.tell(x, whole.substring(0, length));
            boolean isHouse = length == 1 || length == 3;
            check.due("cut at " + length, x.fault(), isHouse ? LastBows.NONE : length);
        }
    }

    @Says("FAULT: the place (from 0) of the first byte by which THE TEXT can be no HOUSE, whatever came behind it")
    static void promise04_whatComesBehindTheFaultIsAllOne() {
        faultOf("HP8", 2);
        faultOf("HP8D0010", 2);
        faultOf("HP8P", 2);
        faultOf("HP1D0014P0", 7);
    }

    @Says("FAULT: the place (from 0) of the first byte by which THE TEXT can be no HOUSE")
    static void promise04_theLeastAndTheMostByteAreFaults() {
        faultOf("\u0000", 0);
        faultOf("\u00ff", 0);
        faultOf("H\u0000", 1);
        faultOf("H\u00ff", 1);
        faultOf("HP\u0000", 2);
        faultOf("HP\u00ff", 2);
        faultOf("HP1D\u00ff", 4);
        faultOf("HP1D001\u0000", 7);
    }

    @Says("NONE: none.")
    static void promise04_theLongestHouseIsOf42Bytes() {
        check.due("its length", LONGEST.length(), 42);
        faultOf(LONGEST, LastBows.NONE);
        for (String more : new String[] {"H", "P", "D", "0"}) {
            faultOf(LONGEST + more, 42);
        }
    }

    @Says("(its length set aside)")
    static void promise04_aFullTextHasItsFaultWhereItIs() {
        faultOf(LONGEST + "P1P1P1", 42);
        faultOf("H".repeat(48), 1);
        faultOf("HP1D0010D1010D2010D3010D4010D5010D6010P1P1PPPPPP", 42);
    }

    @Says("`int fault()`: FAULT; NONE.")
    static void promise04_toTellTheFaultChangesNothing() {
        Twins.changeNothing(check, x -> {
            check.due("fault()", x.fault(), 27);
            check.due("fault() again", x.fault(), 27);
        });
        LastBows x = Check.house("HP1D0090");
        Check.tell(x, "HP7P7");
        check.due("no fault", x.fault(), LastBows.NONE);
        check.due("players stay", x.about(0), 1);
        check.due("need stays", x.player(0, 0), 1);
        check.due("hands stay", x.about(1), 1);
    }

    // ---- promise 5: house

    @Says({"H, then THINGS, none or more", "10 times PLAYERS, and HANDS."})
    static void promise05_theEmptyHouseIs0() {
        LastBows x = new LastBows();
        x.write('H');
        check.due("house()", x.house(), 0);
    }

    @Says({"10 times PLAYERS, and HANDS.", "PLAYERS are 0, 1, 2 (3 at most), HANDS 0, 1, .. (7 at most)"})
    static void promise05_theFullestHouseIs37() {
        LastBows x = new LastBows();
        Check.tell(x, LONGEST);
        check.due("house()", x.house(), 37);
    }

    @Says("LATE: a FAULT.")
    static void promise05_anEmptyTextIsLate() {
        check.due("house()", new LastBows().house(), LastBows.LATE);
    }

    @Says("LATE: a FAULT.")
    static void promise05_aTextNotAtItsEndIsLate() {
        LastBows x = new LastBows();
        Check.tell(x, "HP1D001");
        check.due("house()", x.house(), LastBows.LATE);
        x.write('0');
        check.due("house() at its end", x.house(), 11);
    }

    @Says("LATE: a FAULT.")
    static void promise05_aFaultInTheLastByteIsLate() {
        LastBows x = new LastBows();
        Check.tell(x, "HP1D0014");
        check.due("house()", x.house(), LastBows.LATE);
    }

    @Says("What is refused changes nothing.")
    static void promise05_whatIsRefusedChangesNothing() {
        Twins.changeNothing(check, x -> check.due("house()", x.house(), LastBows.LATE));
    }

    @Says("THE TEXT itself stays")
    static void promise05_theTextStays() {
        LastBows x = Check.house("HP1D0090");
        check.due("bytes", x.about(9), 8);
        check.due("house() again", x.house(), 11);
        check.due("write goes on behind it", x.write('P'), 9);
    }

    @Says("no ACTS;")
    static void promise05_noActsAreLeft() {
        LastBows x = Check.house("HP1D0090");
        x.night();
        x.house();
        check.due("acts", x.about(7), 0);
        check.due("undo()", x.undo(), LastBows.LATE);
    }

    @Says("no ACTS;")
    static void promise05_noActsAreLeftOfAFullRow() {
        LastBows x = Check.house("HP1D0090");
        for (int act = 1; act <= 17; act++) {
            x.night();
        }
        x.house();
        x.night();
        check.due("undo()", x.undo(), 0);
        check.due("THE NIGHT", x.about(2), 0);
        check.due("undo() again", x.undo(), LastBows.LATE);
    }

    @Says("what was kept is gone")
    static void promise05_bothSlotsAreGone() {
        LastBows x = Check.house("HP1D0090");
        x.keep(0);
        x.keep(1);
        x.house();
        check.due("again(0)", x.again(0), LastBows.LATE);
        check.due("again(1)", x.again(1), LastBows.LATE);
    }

    @Says("HEARD, THE SEED stay")
    static void promise05_whatIsHeardStays() {
        LastBows x = Check.house("HP1D0090");
        x.hear(6, 1, 1);
        x.house();
        check.due("heard", x.about(8), 1);
        check.due("whose(1)", x.whose(1), 9);
    }

    @Says("HEARD, THE SEED stay")
    static void promise05_theSeedStays() {
        LastBows x = Check.house("HP1D0090");
        x.seed(-5);
        x.house();
        check.due("seed", x.seed(0), -5);
    }

    @Says("When THE HOUSE is made anew, the VIGOUR of each HAND is its FONDNESS")
    static void promise05_anewVigourIsFondness() {
        LastBows x = Check.house("HP1D0010D2090D4012");
        x.flowers(0);
        x.call(0);
        x.house();
        check.due("the least", x.hand(0, 4), 1);
        check.due("the most", x.hand(1, 4), 9);
        check.due("the last", x.hand(2, 4), 1);
    }

    @Says("nobody was CALLED yet, nobody is DEAD, THE NIGHT is 0.")
    static void promise05_anewNobodyWasCalled() {
        LastBows x = Check.house("HP1P1P1D0090D3190D6290");
        for (int player = 0; player < 3; player++) {
            x.call(player);
            check.due("called", x.player(player, 1), 1);
        }
        x.house();
        for (int player = 0; player < 3; player++) {
            check.due("called anew", x.player(player, 1), 0);
        }
    }

    @Says("nobody was CALLED yet, nobody is DEAD, THE NIGHT is 0.")
    static void promise05_anewNobodyIsDead() {
        LastBows x = Check.house("HP7P7P7");
        for (int player = 0; player < 3; player++) {
            x.call(player);
        }
        check.due("dead", x.about(3), 7);
        x.house();
        check.due("dead anew", x.about(3), 0);
    }

    @Says("nobody was CALLED yet, nobody is DEAD, THE NIGHT is 0.")
    static void promise05_anewTheNightIs0() {
        LastBows x = Check.house("H");
        x.night();
        x.house();
        check.due("THE NIGHT", x.about(2), 0);
    }

    @Says("at SEAT s (where none is told yet)")
    static void promise05_anewSeatsAreAsTold() {
        LastBows x = Check.house("HP1D0090D9090");
        x.seat(0, 5);
        x.seat(1, 0);
        x.house();
        check.due("the first", x.hand(0, 0), 0);
        check.due("the last", x.hand(1, 0), 9);
    }

    @Says("numbered as they are told, each kind for itself")
    static void promise05_eachKindIsNumberedForItself() {
        LastBows x = Check.house("HP3D7090P5D2181P6");
        check.due("needs of 0", x.player(0, 0), 3);
        check.due("needs of 1", x.player(1, 0), 5);
        check.due("needs of 2", x.player(2, 0), 6);
        check.due("seat of 0", x.hand(0, 0), 7);
        check.due("seat of 1", x.hand(1, 0), 2);
        check.due("fond of", x.hand(1, 1), 1);
    }

    @Says("THE TEXT is THE HOUSE")
    static void promise05_aSmallerHouseLeavesNobodyOver() {
        LastBows x = Check.house(LONGEST);
        Check.tell(x, "HP2D3041");
        check.due("house()", x.house(), 11);
        check.due("player 1", x.player(1, 0), LastBows.UNKNOWN);
        check.due("hand 1", x.hand(1, 0), LastBows.UNKNOWN);
        check.due("seats", x.about(4), 8);
        check.due("vigour", x.about(5), 4);
    }

    private static LastBows written(int bytes) {
        LastBows x = new LastBows();
        for (int i = 0; i < bytes; i++) {
            x.write('H');
        }
        return x;
    }

    private static LastBows filled() {
        LastBows x = Twins.lived();
        while (x.about(9) < 48) {
            x.write('?');
        }
        return x;
    }

    private static void faultOf(String text, int want) {
        LastBows x = new LastBows();
        for (int i = 0; i < text.length(); i++) {
            x.write(text.charAt(i));
        }
        check.due("fault() of " + text, x.fault(), want);
        check.holds("house() of " + text, (x.house() == LastBows.LATE) == (want != LastBows.NONE));
    }
}
