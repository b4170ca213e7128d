/** Promises 27 and 28: kept, and gone on from. */
public final class SlotsTest {
    private static final Check check = new Check();

    public static void main(String[] args) {
        refusals();
        keepAndGoOn();
        actsAndTheRest();
        check.end("SlotsTest");
    }

    private static void refusals() {
        LastBows x = new LastBows();
        check.due("keep(-1)", x.keep(-1), LastBows.UNKNOWN);
        check.due("keep(2)", x.keep(2), LastBows.UNKNOWN);
        check.due("again(-1)", x.again(-1), LastBows.UNKNOWN);
        check.due("again(2)", x.again(2), LastBows.UNKNOWN);
        check.due("none kept", x.again(0), LastBows.LATE);
        check.due("none kept, either", x.again(1), LastBows.LATE);
        check.due("nobody is kept", x.keep(1), 0);
        check.due("the other slot", x.again(0), LastBows.LATE);
        check.due("nobody goes on", x.again(1), 0);
        x.night();
        check.due("late keeps the acts", x.again(0), LastBows.LATE);
        check.due("acts", x.about(7), 1);
    }

    private static void keepAndGoOn() {
        LastBows x = Check.house("HP1P7D0050D2191");
        x.night();
        x.call(0);
        x.seat(0, 4);
        check.due("keep", x.keep(0), 1);
        x.call(0);
        x.call(1);
        x.flowers(1);
        x.seat(1, 9);
        x.night();
        check.due("keep the other", x.keep(1), 2);
        check.due("again", x.again(0), 1);
        check.due("THE NIGHT", x.about(2), 1);
        check.due("seats", x.about(4), 1 << 4 | 1 << 2);
        check.due("vigour", x.hand(0, 4), 4);
        check.due("called", x.player(0, 1), 1);
        check.due("nobody dead", x.about(3), 0);
        check.due("again the other", x.again(1), 2);
        check.due("seats", x.about(4), 1 << 4 | 1 << 9);
        check.due("vigour", x.hand(0, 4), 4);
        check.due("called", x.player(0, 1), 2);
        check.due("dead", x.about(3), 2);
        x.night();
        check.due("a slot outlasts its use", x.again(0), 1);
        x.night();
        x.night();
        check.due("kept over", x.keep(0), 3);
        x.again(1);
        check.due("the later one", x.again(0), 3);
    }

    private static void actsAndTheRest() {
        LastBows x = Check.house("HP1D0050");
        x.night();
        x.keep(0);
        check.due("to keep ends no acts", x.about(7), 1);
        x.hear(1, 0, 1);
        x.seed(8);
        x.again(0);
        check.due("no acts when one goes on", x.about(7), 0);
        check.due("undo none", x.undo(), LastBows.LATE);
        check.due("heard stays", x.about(8), 1);
        check.due("seed stays", x.seed(0), 8);
        x.call(0);
        check.due("acts go on", x.undo(), 0);
        check.due("as it was kept", x.about(2), 1);
    }
}
