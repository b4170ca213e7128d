/** Promises 23 to 26: rests, away, the seed, seasons. */
public final class ChancesTest {
    private static final Check check = new Check();

    public static void main(String[] args) {
        rests();
        restsRefusals();
        away();
        seed();
        seasons();
        nothingIsChanged();
        check.end("ChancesTest");
    }

    private static void rests() {
        // One is enough: who claps would rather not, but then nobody does: (0, 1) and (1, 0) rest.
        restsOf("HP1D0030D5030", 0, 1, 2, 1);
        // Both are needed: (1, 1), and (0, 0), where one alone would clap for nothing.
        restsOf("HP2D0030D5030", 0, 1, 2, 0);
        // The other never claps: the one comes, whatever it does.
        restsOf("HP1D0030D5010", 0, 1, 2, 10);
        restsOf("HP1P1D9190D0010D5030D7190", 2, 1, 2, 10);
        // Never enough: to clap costs 1 and brings nothing.
        restsOf("HP3D0030D5030", 0, 1, 1, 0);
        // Neither ever claps, nor matters: all four rest.
        restsOf("HP1D0010D5010", 0, 1, 4, 0);
        // A third one claps always, so each would rather be away.
        restsOf("HP1D0030D5030D9030", 0, 1, 1, 0);
        // A hisser hushes the plain one beside it: one of them is away, whichever it is.
        restsOf("HP1D0030D1013", 0, 1, 2, 1);
        // Where another claps with it, the plain one comes only if the hisser does not.
        restsOf("HP2D0030D1013D5030", 0, 1, 2, 1);
        restsOf("HP2D0030D1013D5030", 1, 0, 2, 1);
        // A third one claps always: the lonely one never does, so all is one to it, and the plain one stays away.
        restsOf("HP1D0040D5022D9030", 1, 0, 2, 0);
        // An usher needs the plain one beside it, told the other way about.
        restsOf("HP2D0011D1030", 0, 1, 2, 0);
        restsOf("HP2D0011D1030", 1, 0, 2, 0);
        // One of them is enough, and together only the plain one claps: it would rather be away then.
        restsOf("HP1D0012D5030", 0, 1, 2, 1);
    }

    private static void restsOf(String text, int one, int other, int howMany, int first) {
        LastBows x = Check.house(text);
        check.due("rests of " + text, x.rests(one, other, 0), howMany);
        check.due("first rest of " + text, x.rests(one, other, 1), first);
    }

    private static void restsRefusals() {
        LastBows x = Check.house("HP1P1D0030D2130D4030");
        check.due("no such one", x.rests(3, 0, 0), LastBows.UNKNOWN);
        check.due("no such other", x.rests(0, 3, 0), LastBows.UNKNOWN);
        check.due("-1", x.rests(-1, 0, 0), LastBows.UNKNOWN);
        check.due("other -1", x.rests(0, -1, 0), LastBows.UNKNOWN);
        check.due("unknown ahead of bad", x.rests(3, 3, 9), LastBows.UNKNOWN);
        check.due("both are one", x.rests(0, 0, 0), LastBows.BAD);
        check.due("what", x.rests(0, 2, 2), LastBows.BAD);
        check.due("what -1", x.rests(0, 2, -1), LastBows.BAD);
        check.due("bad ahead of late", x.rests(0, 1, 2), LastBows.BAD);
        check.due("not fond of one", x.rests(0, 1, 0), LastBows.LATE);
        check.due("fond of one", x.rests(0, 2, 0), 2);
        LastBows dead = Check.house("HP3D0030D2030");
        dead.call(0);
        check.due("a dead one's, too", dead.rests(0, 1, 0), 1);
    }

    private static void away() {
        awayOf("HP1D0030", 0, 0, 1, 1);
        awayOf("HP1D0030", 0, 10, 0, 1);
        awayOf("HP1D0030", 0, 3, 7, 10);
        awayOf("HP1D0030", 0, 5, 1, 2);
        awayOf("HP1D0030D5030", 0, 5, 3, 4);
        awayOf("HP2D0030D5030", 0, 1, 81, 100);
        awayOf("HP2D0030", 0, 0, 0, 1);
        awayOf("HP2", 0, 4, 0, 1);
        // The plain one is heard if it is there and the hisser is not.
        awayOf("HP1D0030D1013", 0, 5, 1, 4);
        awayOf("HP1D0030D1013", 0, 0, 0, 1);
        awayOf("HP7D0030D1030D2030D3030D4030D5030D6030", 0, 1, 4782969, 10000000);
        awayOf("HP1D0030D1030D2030D3030D4030D5030D6030", 0, 9, 5217031, 10000000);
        LastBows x = Check.house("HP1D0030");
        check.due("x -1", x.away(0, -1, true), LastBows.BAD);
        check.due("x 11", x.away(0, 11, true), LastBows.BAD);
        check.due("no player", x.away(1, 11, true), LastBows.UNKNOWN);
        check.due("player -1", x.away(-1, 0, false), LastBows.UNKNOWN);
    }

    private static void awayOf(String text, int player, int x, int above, int below) {
        LastBows bows = Check.house(text);
        check.due("away above of " + text + " by " + x, bows.away(player, x, true), above);
        check.due("away below of " + text + " by " + x, bows.away(player, x, false), below);
    }

    private static void seed() {
        LastBows x = new LastBows();
        check.due("at first", x.seed(Long.MIN_VALUE), 0);
        check.due("least", x.seed(Long.MAX_VALUE), Long.MIN_VALUE);
        check.due("most", x.seed(0), Long.MAX_VALUE);
        x.seasons(1);
        check.due("behind one season", x.seed(1), 1442695040888963407L);
        x.seasons(1);
        check.due("behind another", x.seed(0), 7806831264735756412L);
    }

    private static void seasons() {
        LastBows x = new LastBows();
        check.due("m 0", x.seasons(0), LastBows.BAD);
        check.due("m 31", x.seasons(31), LastBows.BAD);
        check.due("m -1", x.seasons(-1), LastBows.BAD);
        check.due("refused changes nothing", x.seed(0), 0);
        check.due("nobody", x.seasons(30), 0);
        // Earlier calls count behind each time.
        LastBows called = Check.house("HP1D0090");
        called.call(0);
        called.call(0);
        check.due("a night adds what was called", Lots.seasonsBy(called, 19), 2);
        check.due("a call adds one more", Lots.seasonsBy(called, 0), 3);
        check.due("each time adds", Lots.seasonsBy(called, 3, 20, 0), 3 + 3 + 4);
        check.due("no player 1", Lots.seasonsBy(called, 1), 2);
        check.due("no player 2", Lots.seasonsBy(called, 5), 2);
        seasonsOfPlayers();
        seasonsOfSeats();
        seasonsOfNights();
    }

    private static void seasonsOfPlayers() {
        LastBows weak = Check.house("HP1P1P1D0020D3120D6220");
        for (int player = 0; player < 3; player++) {
            check.due("too weak", Lots.seasonsBy(weak, player), 0);
            check.due("flowers, then called", Lots.seasonsBy(weak, 6 + player, player), 1);
            check.due("flowers, then called by 3 more", Lots.seasonsBy(weak, 6 + player, 3 + player), 1);
            check.due("another's flowers", Lots.seasonsBy(weak, 6 + (player + 1) % 3, player), 0);
            check.due("who is dead stays so", Lots.seasonsBy(weak, player, 6 + player, player), 0);
        }
        check.due("flowers are one at a time", Lots.seasonsBy(Check.house("HP1D0010"), 6, 0), 0);
        check.due("nobody's flowers", Lots.seasonsBy(Check.house("HP1D0020"), 7, 8, 0), 0);
    }

    private static void seasonsOfSeats() {
        check.due("apart", Lots.seasonsBy(Check.house("HP2D4030D9021"), 19, 0), 0);
        check.due("seated at 8", Lots.seasonsBy(Check.house("HP2D4030D9021"), 17, 0), 1);
        check.due("seated at 7", Lots.seasonsBy(Check.house("HP2D4030D9021"), 16, 0), 0);
        check.due("9 is taken", Lots.seasonsBy(Check.house("HP2D4030D9021"), 18, 0), 0);
        check.due("seated at 9", Lots.seasonsBy(Check.house("HP2D4030D8021"), 18, 0), 1);
        check.due("seated at 0", Lots.seasonsBy(Check.house("HP2D4030D1021"), 9, 0), 1);
        check.due("a taken seat leaves it where it is", Lots.seasonsBy(Check.house("HP2D4030D5021"), 14, 0), 1);
        check.due("the seat left is free", Lots.seasonsBy(Check.house("HP2D4030D5021"), 9, 13, 0), 1);
    }

    private static void seasonsOfNights() {
        LastBows x = Check.house("HP1D0030");
        for (int lot = 19; lot <= 23; lot++) {
            check.due("a night between, by " + lot, Lots.seasonsBy(x, 0, lot, 0), 1 + 1 + 2);
        }
        check.due("none between", Lots.seasonsBy(x, 0, 18, 0), 1 + 1 + 1);
    }

    private static void nothingIsChanged() {
        LastBows x = Check.house("HP1P1P1D0040D2191D4292D6013");
        x.seasons(30);
        x.rests(0, 3, 0);
        x.away(0, 5, true);
        check.due("seats", x.about(4), 85);
        check.due("vigour", x.about(5), 23);
        check.due("dead", x.about(3), 0);
        check.due("acts", x.about(7), 0);
        check.due("THE NIGHT", x.about(2), 0);
        check.due("called", x.player(0, 1) + x.player(1, 1) + x.player(2, 1), 0);
    }
}
