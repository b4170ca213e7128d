/** Promises 14 to 19: yet, best, wants, still, judge, share. */
public final class ToComeTest {
    private static final Check check = new Check();

    public static void main(String[] args) {
        yet();
        best();
        wants();
        still();
        judge();
        judgeRefusals();
        share();
        nothingIsChanged();
        check.end("ToComeTest");
    }

    private static void yet() {
        check.due("plain of 9", Check.house("HP1D0090").yet(0), 7);
        check.due("lonely of 9", Check.house("HP1D0092").yet(0), 9);
        // Lonely ones clap all at once, so three come no further than one.
        check.due("lonely ones", Check.house("HP1D0092D1092D2092").yet(0), 9);
        // The plain one claps 7 times, and only then the lonely one, 9 times.
        check.due("plain, then lonely", Check.house("HP1D0090D5092").yet(0), 16);
        check.due("too few", Check.house("HP2D0090").yet(0), 0);
        LastBows x = Check.house("HP1P1D0040D2130");
        check.due("yet 0", x.yet(0), 2);
        x.call(0);
        check.due("yet less one", x.yet(0), 1);
        check.due("yet 1", x.yet(1), 1);
        x.call(0);
        check.due("alive with none to come", x.yet(0), 0);
        x.call(0);
        check.due("dead", x.yet(0), LastBows.LATE);
        check.due("yet(2)", x.yet(2), LastBows.UNKNOWN);
        check.due("yet(-1)", x.yet(-1), LastBows.UNKNOWN);
    }

    private static void best() {
        // The usher is of use beside the plain one alone: seats 3 and 5, the lesser of which is told.
        LastBows usher = Check.house("HP2D4050D9091");
        check.due("best seat", usher.best(1, 0), 3);
        check.due("how often", usher.best(1, 1), 3);
        LastBows taken = Check.house("HP2P1D4050D9091D3110");
        check.due("a seat that is taken is none", taken.best(1, 0), 5);
        LastBows own = Check.house("HP1D6040");
        check.due("of like ones the least", own.best(0, 0), 0);
        check.due("as often", own.best(0, 1), 2);
        LastBows none = Check.house("HP7D6040");
        check.due("none at all: the least", none.best(0, 0), 0);
        check.due("none at all: 0 times", none.best(0, 1), 0);
        // Each free seat is beside a hisser: its own alone is good.
        LastBows stay = Check.house("HP1D3040D1013D5013D7013D9013");
        check.due("its own, not hushed", stay.best(0, 0), 3);
        check.due("how often there", stay.best(0, 1), 2);
        LastBows own2 = Check.house("HP2D4050D5091D3013");
        check.due("hushed plain one at 4 moves", own2.best(0, 0), 6);
        LastBows ownBest = Check.house("HP2D8050D9091D6012D7012");
        check.due("its own seat is best", ownBest.best(0, 0), 8);
        LastBows dead = Check.house("HP7P1D0090D2190");
        dead.call(0);
        check.due("its player is dead", dead.best(0, 0), LastBows.LATE);
        check.due("bad ahead of late", dead.best(0, 2), LastBows.BAD);
        check.due("the other's is not", dead.best(1, 1), 7);
        check.due("best(2, 5)", dead.best(2, 5), LastBows.UNKNOWN);
        check.due("best(-1, 0)", dead.best(-1, 0), LastBows.UNKNOWN);
        check.due("best(1, -1)", dead.best(1, -1), LastBows.BAD);
    }

    private static void wants() {
        LastBows x = Check.house("HP1P7D0040D5190");
        check.due("none wanted", x.wants(0, 2), 0);
        check.due("one", x.wants(0, 3), 1);
        check.due("five", x.wants(0, 7), 5);
        check.due("9 at most", x.wants(0, 8), LastBows.NONE);
        check.due("never", x.wants(1, 1), LastBows.NONE);
        check.due("wants(0, 0)", x.wants(0, 0), LastBows.BAD);
        check.due("wants(0, 10)", x.wants(0, 10), LastBows.BAD);
        check.due("wants(2, 0)", x.wants(2, 0), LastBows.UNKNOWN);
        LastBows lonely = Check.house("HP1D0012");
        check.due("eight", lonely.wants(0, 9), 8);
        lonely.call(0);
        check.due("nine", lonely.wants(0, 9), 9);
        x.call(1);
        check.due("dead", x.wants(1, 1), LastBows.LATE);
        check.due("bad ahead of late", x.wants(1, 10), LastBows.BAD);
        // Flowers wake the plain one, who silences two lonely ones: fewer come than without.
        LastBows woken = Check.house("HP2D0020D4032D6032");
        check.due("as it is", woken.wants(0, 3), 0);
        check.due("woken", woken.wants(0, 4), LastBows.NONE);
    }

    private static void still() {
        check.due("the one", Check.house("HP1D0090").still(0), 1);
        check.due("still already", Check.house("HP2D0090").still(0), 0);
        // Any two of three; the least bits are 3.
        check.due("two of three", Check.house("HP2D0090D2090D4090").still(0), 3);
        check.due("all three", Check.house("HP1D0090D2090D4090").still(0), 7);
        // The chain hangs on its plain one, hand 2.
        check.due("the one all hang on", Check.house("HP1D0091D1091D2090").still(0), 4);
        // With the plain one home the lonely one claps, so both must go.
        check.due("the lonely one, too", Check.house("HP1P1D9190D0090D5092").still(0), 6);
        LastBows x = Check.house("HP1P7D0090D2190");
        x.call(1);
        check.due("dead", x.still(1), LastBows.LATE);
        check.due("still(2)", x.still(2), LastBows.UNKNOWN);
        check.due("still(-1)", x.still(-1), LastBows.UNKNOWN);
    }

    private static void judge() {
        LastBows x = Check.house("HP1P2D0040D2091");
        check.due("comes", x.judge(1, 100), LastBows.NONE);
        check.due("comes twice", x.judge(2, 100100), LastBows.NONE);
        check.due("not thrice", x.judge(4, 100100100400L), 2);
        check.due("flowers help", x.judge(4, 100100200100L), LastBows.NONE);
        check.due("a night helps", x.judge(4, 100100400100L), LastBows.NONE);
        check.due("a call in vain", x.judge(2, 400101), 1);
        check.due("no such player", x.judge(1, 102), 0);
        check.due("flowers for nobody", x.judge(1, 202), 0);
        check.due("figure between", x.judge(1, 110), 0);
        check.due("figure between, 2", x.judge(1, 210), 0);
        check.due("figure between, 4", x.judge(1, 410), 0);
        check.due("figure behind, 4", x.judge(1, 401), 0);
        check.due("figure between, 5", x.judge(1, 510), 0);
        check.due("seated", x.judge(2, 311602), LastBows.NONE);
        check.due("not yet so loud", x.judge(2, 602311), 0);
        check.due("its own seat", x.judge(1, 312), 0);
        check.due("a taken seat", x.judge(1, 310), 0);
        check.due("the seat left is free", x.judge(2, 319302), LastBows.NONE);
        check.due("no such hand", x.judge(1, 325), 0);
        check.due("not dead", x.judge(2, 501500), LastBows.NONE);
        check.due("nobody is not alive", x.judge(1, 502), 0);
        check.due("loud as 0", x.judge(1, 610), LastBows.NONE);
        check.due("loud as 0 for nobody", x.judge(1, 620), 0);
        check.due("loud as 9", x.judge(2, 601609), 1);
        for (int verb = 7; verb <= 10; verb++) {
            check.due("verb " + verb % 10, x.judge(2, 400000 + verb % 10 * 100), 1);
        }
        LastBows weak = Check.house("HP1D0010");
        check.due("flowers are one at a time", weak.judge(2, 200601), 1);
        check.due("two are two", weak.judge(3, 200200601), LastBows.NONE);
        check.due("noughts alone", weak.judge(4, 0), 0);
        check.due("leading noughts", x.judge(4, 400), 0);
        x.call(1);
        check.due("dead one not called", x.judge(2, 400101), 1);
        check.due("dead", x.judge(1, 501), 0);
        check.due("flowers for a dead one", x.judge(1, 201), LastBows.NONE);
        check.due("loud for a dead one", x.judge(1, 610), LastBows.NONE);
    }

    private static void judgeRefusals() {
        LastBows x = Check.house("HP1D0040");
        check.due("n 0", x.judge(0, 0), LastBows.BAD);
        check.due("n 5", x.judge(5, 400400400400L), LastBows.BAD);
        check.due("n -1", x.judge(-1, 400), LastBows.BAD);
        check.due("row -1", x.judge(4, -1), LastBows.BAD);
        check.due("row least", x.judge(1, Long.MIN_VALUE), LastBows.BAD);
        check.due("row most", x.judge(4, Long.MAX_VALUE), LastBows.BAD);
        check.due("999", x.judge(1, 999), 0);
        check.due("1000", x.judge(1, 1000), LastBows.BAD);
        check.due("999999", x.judge(2, 400999L), 1);
        check.due("1000000", x.judge(2, 1000000), LastBows.BAD);
        check.due("10^9 - 1", x.judge(3, 999999999L), 0);
        check.due("10^9", x.judge(3, 1000000000L), LastBows.BAD);
        check.due("10^12 - 1", x.judge(4, 999999999999L), 0);
        check.due("10^12", x.judge(4, 1000000000000L), LastBows.BAD);
        check.due("four nights", x.judge(4, 400400400400L), LastBows.NONE);
    }

    private static void share() {
        LastBows x = Check.house("HP1P1D0030D1011D5013");
        shareOf(x, 0, 0, 3, 2);
        shareOf(x, 1, 0, 1, 2);
        shareOf(x, 2, 0, 0, 1);
        shareOf(x, 0, 1, 0, 1);
        // A hisser beside a plain one takes its clap in the half of orders where it comes behind it.
        LastBows hissed = Check.house("HP1D0030D1013");
        shareOf(hissed, 0, 0, 1, 2);
        shareOf(hissed, 1, 0, -1, 2);
        LastBows alone = Check.house("HP1D0030");
        shareOf(alone, 0, 0, 1, 1);
        // Two lonely ones and a plain one: who of them comes first makes it as loud as it is.
        LastBows lonely = Check.house("HP1D0012D4012D8030");
        shareOf(lonely, 0, 0, 1, 2);
        shareOf(lonely, 2, 0, 0, 1);
        // Seven: a plain one in the middle of three ushers to its left, three to its right.
        LastBows seven = Check.house("HP1D0011D1011D2011D3030D4011D5011D6011");
        shareOf(seven, 0, 0, 1, 4);
        shareOf(seven, 1, 0, 7, 12);
        shareOf(seven, 2, 0, 13, 12);
        shareOf(seven, 3, 0, 19, 6);
        check.due("no hand", x.share(3, 0, true), LastBows.UNKNOWN);
        check.due("no hand", x.share(-1, 0, false), LastBows.UNKNOWN);
        check.due("no player", x.share(0, 2, true), LastBows.UNKNOWN);
        check.due("no player", x.share(0, -1, false), LastBows.UNKNOWN);
    }

    private static void shareOf(LastBows x, int hand, int player, int above, int below) {
        check.due("share above of " + hand, x.share(hand, player, true), above);
        check.due("share below of " + hand, x.share(hand, player, false), below);
    }

    private static void nothingIsChanged() {
        LastBows x = Check.house("HP1P1D0040D2191D4092D6013");
        x.yet(0);
        x.best(0, 0);
        x.wants(0, 9);
        x.still(0);
        x.judge(4, 100200400305L);
        x.share(0, 0, true);
        check.due("seats", x.about(4), 85);
        check.due("vigour", x.about(5), 23);
        check.due("dead", x.about(3), 0);
        check.due("acts", x.about(7), 0);
        check.due("THE NIGHT", x.about(2), 0);
        check.due("called", x.player(0, 1), 0);
    }
}
