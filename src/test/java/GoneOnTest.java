/** What is told of a house that has gone on: seats changed, hands tired, players dead, hands that are fond of others. */
public final class GoneOnTest {
    private static final Check check = new Check();
    /** A plain one at 0, and an usher too far from it to join; he needs both. */
    private static final String APART = "HP2D0050D5091";

    public static void main(String[] args) throws IllegalAccessException {
        Boundaries.run(GoneOnTest.class, check);
    }

    private static LastBows nowBeside() {
        LastBows x = Check.house(APART);
        x.seat(1, 1);
        return x;
    }

    private static void fraction(String what, int above, int below, int dueAbove, int dueBelow) {
        check.due(what + ", above", above, dueAbove);
        check.due(what + ", below", below, dueBelow);
    }

    private static void share(LastBows x, int hand, int player, int above, int below) {
        fraction("share(" + hand + ", " + player + ")", x.share(hand, player, true), x.share(hand, player, false),
            above, below);
    }

    private static void away(LastBows x, int tenths, int above, int below) {
        fraction("away(0, " + tenths + ")", x.away(0, tenths, true), x.away(0, tenths, false), above, below);
    }

    // ---- who is hushed, who claps

    @Says("that is each HAND that is beside the SEAT of a HISSER of VIGOUR 1 or more (fond of whomever;")
    static void promise06_aHisserOfADeadPlayerHushesStill() {
        LastBows x = Check.house("HP1P2D0090D1113");
        check.due("player 1 is not called", x.call(1), 0);
        check.due("who is dead", x.about(3), 2);
        check.due("who is hushed", x.about(6), 1);
        check.due("nobody claps for player 0", x.player(0, 2), 0);
    }

    @Says("HANDS that CLAP for him (2: bits), how LOUD that is (3), 1 if he is DEAD (4).")
    static void promise07_whoClapsForADeadOneIsToldToo() {
        LastBows x = Check.house("HP2D0030");
        x.call(0);
        check.due("dead", x.player(0, 4), 1);
        check.due("who claps", x.player(0, 2), 1);
        check.due("how loud", x.player(0, 3), 1);
    }

    @Says({"Who is HUSHED does not", "USHER: of VIGOUR 1 or more, if a HAND beside it CLAPS"})
    static void promise07_besideAHushedPlainOneAnUsherDoesNotClap() {
        check.due("nobody", Check.house("HP1D0013D1090D2091").player(0, 2), 0);
        check.due("so the lonely one", Check.house("HP1D0013D1090D2091D9092").player(0, 2), 8);
    }

    // ---- acts

    @Says("A NIGHT: each HAND of VIGOUR less than its FONDNESS has 1 more")
    static void promise12_handsOfADeadPlayerRestToo() {
        LastBows x = Check.house("HP1D0030");
        x.call(0);
        check.due("too tired", x.call(0), 0);
        check.due("he is dead", x.about(3), 1);
        check.due("night()", x.night(), 3);
    }

    // ---- calls to come

    @Says("how often he comes, if he is CALLED again and again till he is DEAD")
    static void promise14_yetIsBySeatsAsTheyAre() {
        check.due("apart", Check.house(APART).yet(0), 0);
        LastBows x = nowBeside();
        check.due("beside", x.yet(0), 3);
        x.call(0);
        check.due("one less", x.yet(0), 2);
    }

    @Says("by which, there now, YET is most")
    static void promise15_bestIsByVigourAsItIs() {
        LastBows x = Check.house("HP1D0040");
        check.due("new", x.best(0, 1), 2);
        x.call(0);
        check.due("tired", x.best(0, 1), 1);
        x.flowers(0);
        x.flowers(0);
        check.due("with flowers", x.best(0, 1), 3);
    }

    @Says({"the SEAT (its own, or one where none is)", "of like ones the least"})
    static void promise15_bestIsBySeatsAsTheyAre() {
        LastBows x = Check.house("HP2D4050D9091");
        check.due("beside seat 4", x.best(1, 0), 3);
        x.seat(0, 7);
        check.due("beside seat 7", x.best(1, 0), 6);
        check.due("how often", x.best(1, 1), 3);
        x.seat(1, 8);
        check.due("its own is no better than the lesser one", x.best(1, 0), 6);
        x.seat(0, 9);
        check.due("its own is beside seat 9 alone", x.best(1, 0), 8);
    }

    @Says("the fewest FLOWERS (0 .. 9, all now) by which YET is n or more; NONE.")
    static void promise16_wantsIsBySeatsAndVigourAsTheyAre() {
        check.due("apart", Check.house(APART).wants(0, 1), LastBows.NONE);
        LastBows x = nowBeside();
        check.due("beside, 3", x.wants(0, 3), 0);
        check.due("beside, 4", x.wants(0, 4), 1);
        x.call(0);
        check.due("tired, 3", x.wants(0, 3), 1);
    }

    @Says("the fewest HANDS (bits; of like ones the least) with which sent home (not there) he is not CALLED (YET 0).")
    static void promise17_stillIsBySeatsAndVigourAsTheyAre() {
        check.due("apart, he is not called", Check.house(APART).still(0), 0);
        LastBows x = nowBeside();
        check.due("beside, either is needed", x.still(0), 1);
        for (int call = 0; call < 3; call++) {
            x.call(0);
        }
        check.due("tired, he is not called", x.still(0), 0);
    }

    @Says("the fewest HANDS (bits; of like ones the least) with which sent home (not there) he is not CALLED (YET 0).")
    static void promise17_aHisserOfAnotherMayBeTheOneToSendHome() {
        // Without the hisser the plain one claps, and so none of the three lonely ones does.
        check.due("the last hand", Check.house("HP2P1D1090D4052D6052D8052D0113").still(0), 16);
        // One of two lonely ones would do as well, but the hisser is the lesser bit.
        check.due("the first hand", Check.house("HP2P1D0113D1090D6052D8052").still(0), 1);
    }

    @Says({"1, 0, a PLAYER: CALLED, and he comes", "it is as LOUD as v for him, or more"})
    static void promise18_judgedIsByVigourAsItIs() {
        LastBows x = Check.house("HP1D0030");
        check.due("new: comes", x.judge(1, 100), LastBows.NONE);
        check.due("new: as loud as 1", x.judge(1, 601), LastBows.NONE);
        x.call(0);
        check.due("tired: comes", x.judge(1, 100), 0);
        check.due("tired: as loud as 1", x.judge(1, 601), 0);
        check.due("a night, then he comes", x.judge(2, 400100), LastBows.NONE);
        check.due("flowers, then he comes", x.judge(2, 200100), LastBows.NONE);
    }

    @Says("3, a HAND, a SEAT: SEATED")
    static void promise18_judgedIsBySeatsAsTheyAre() {
        check.due("apart", Check.house(APART).judge(1, 602), 0);
        LastBows x = nowBeside();
        check.due("beside", x.judge(1, 602), LastBows.NONE);
        check.due("seat 1 is taken now", x.judge(1, 301), 0);
        check.due("seat 5 is not", x.judge(1, 305), LastBows.NONE);
    }

    @Says("by how much in the mean it is LOUDER for him when it has come than it was")
    static void promise19_shareIsByVigourAsItIs() {
        LastBows x = Check.house("HP1D0030D5012");
        // Ahead of the lonely one the plain one makes it louder by 1; behind it, it only takes its place.
        share(x, 0, 0, 1, 2);
        share(x, 1, 0, 1, 2);
        x.call(0);
        share(x, 0, 0, 0, 1);
        share(x, 1, 0, 1, 1);
    }

    @Says("by how much in the mean it is LOUDER for him when it has come than it was")
    static void promise19_shareIsBySeatsAsTheyAre() {
        share(Check.house(APART), 0, 0, 1, 1);
        share(Check.house(APART), 1, 0, 0, 1);
        LastBows x = nowBeside();
        // Who comes last makes the usher clap: the usher then adds itself, the plain one adds both.
        share(x, 0, 0, 3, 2);
        share(x, 1, 0, 1, 2);
    }

    @Says("if HANDS come one by one, in each order as likely (others are not there)")
    static void promise19_aHisserOfAnotherComesInItsTurnToo() {
        LastBows x = Check.house("HP1P1D0030D1113");
        share(x, 0, 0, 1, 2);
        share(x, 1, 0, -1, 2);
        share(x, 0, 1, 0, 1);
        share(x, 1, 1, 0, 1);
    }

    @Says("if HANDS come one by one, in each order as likely (others are not there)")
    static void promise19_aHandOfAnotherThatIsNoHisserMakesNoOdds() {
        LastBows x = Check.house("HP1P1D0030D1113D5190D6191D9192");
        share(x, 0, 0, 1, 2);
        share(x, 1, 0, -1, 2);
        share(x, 2, 0, 0, 1);
        share(x, 3, 0, 0, 1);
        share(x, 4, 0, 0, 1);
    }

    // ---- rests, chances

    @Says("each has 3, if it is as LOUD as he needs, less 1, if it CLAPS")
    static void promise23_restsAreByVigourAsItIs() {
        LastBows x = Check.house("HP1D0030D5030");
        check.due("new: how many", x.rests(0, 1, 0), 2);
        check.due("new: the first", x.rests(0, 1, 1), 1);
        x.call(0);
        check.due("tired: how many", x.rests(0, 1, 0), 4);
        check.due("tired: the first", x.rests(0, 1, 1), 0);
    }

    @Says("each is there (1), or not (0) (others as they are)")
    static void promise23_restsAreBySeatsAsTheyAre() {
        LastBows x = Check.house("HP1P1D0030D2030D9113");
        check.due("the hisser is far: how many", x.rests(0, 1, 0), 2);
        check.due("the hisser is far: the first", x.rests(0, 1, 1), 1);
        x.seat(2, 1);
        check.due("it is between: how many", x.rests(0, 1, 0), 4);
        check.due("it is between: the first", x.rests(0, 1, 1), 0);
    }

    @Says("that it is as LOUD for a PLAYER as he needs: a FRACTION.")
    static void promise24_awayIsBySeatsAsTheyAre() {
        away(Check.house(APART), 5, 0, 1);
        away(nowBeside(), 5, 1, 4);
        away(nowBeside(), 1, 81, 100);
    }

    @Says("each HAND stays away by x tenths (0 .. 10), by itself")
    static void promise24_aHisserOfAnotherStaysAwayToo() {
        // The plain one is there, the hisser is not.
        LastBows x = Check.house("HP1P1D0030D1113");
        away(x, 5, 1, 4);
        away(x, 3, 21, 100);
        away(x, 0, 0, 1);
    }

    @Says("is a PLAYER that is CALLED, if there is such a one that is not DEAD")
    static void promise26_seasonsGoOnFromVigourAsItIs() {
        LastBows x = Check.house("HP1D0030");
        check.due("new: he comes", Lots.seasonsBy(x, 0), 1);
        x.call(0);
        check.due("tired: he was called once, and no more", Lots.seasonsBy(x, 0), 1);
        check.due("a night, then he comes", Lots.seasonsBy(x, 19, 0), 1 + 2);
    }

    @Says("9 .. 18 HAND 0 is SEATED at that less 9 SEAT, if it can be")
    static void promise26_seasonsGoOnFromSeatsAsTheyAre() {
        check.due("apart", Lots.seasonsBy(Check.house(APART), 0), 0);
        check.due("beside", Lots.seasonsBy(nowBeside(), 0), 1);
        // Seat 1 is taken now, so hand 0 stays where it is; seat 5 is free now, and too far.
        check.due("to seat 1", Lots.seasonsBy(nowBeside(), 10, 0), 1);
        check.due("to seat 5", Lots.seasonsBy(nowBeside(), 14, 0), 0);
    }
}
