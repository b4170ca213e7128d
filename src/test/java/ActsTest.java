/** Promises 9 to 13: calls, flowers, seats changed, nights, and all of it undone. */
public final class ActsTest {
    private static final Check check = new Check();

    public static void main(String[] args) {
        call();
        flowers();
        seat();
        night();
        undoEach();
        undoFull();
        refusedChangesNothing();
        check.end("ActsTest");
    }

    private static void call() {
        LastBows x = Check.house("HP2P1D0040D1011D5150");
        check.due("call 0", x.call(0), 2);
        check.due("plain has less", x.hand(0, 4), 3);
        check.due("usher has less", x.hand(1, 4), 0);
        check.due("another's hand has as much", x.hand(2, 4), 5);
        check.due("called", x.player(0, 1), 1);
        check.due("too quiet", x.call(0), 1);
        check.due("dead", x.player(0, 4), 1);
        check.due("who clapped in vain keeps its vigour", x.hand(0, 4), 3);
        check.due("not called once more", x.player(0, 1), 1);
        check.due("a dead one", x.call(0), LastBows.LATE);
        check.due("the other one", x.call(1), 1);
        check.due("call(2)", x.call(2), LastBows.UNKNOWN);
        check.due("call(-1)", x.call(-1), LastBows.UNKNOWN);
        check.due("acts", x.about(7), 3);
        LastBows more = Check.house("HP1D0030D2030");
        check.due("louder than he needs", more.call(0), 2);
        check.due("each that clapped has less", more.about(5), 4);
    }

    private static void flowers() {
        LastBows x = Check.house("HP1P1D0020D2190D4081D6013");
        check.due("flowers 0", x.flowers(0), 1);
        check.due("plain", x.hand(0, 4), 3);
        check.due("another's", x.hand(1, 4), 9);
        check.due("usher", x.hand(2, 4), 9);
        check.due("hisser", x.hand(3, 4), 2);
        check.due("flowers again", x.flowers(0), 1);
        check.due("9 at most", x.hand(2, 4), 9);
        check.due("flowers 1", x.flowers(1), 1);
        check.due("9 at most, too", x.hand(1, 4), 9);
        check.due("flowers(2)", x.flowers(2), LastBows.UNKNOWN);
        check.due("flowers(-1)", x.flowers(-1), LastBows.UNKNOWN);
        check.due("acts", x.about(7), 3);
        LastBows dead = Check.house("HP2D0020");
        dead.call(0);
        check.due("flowers for a dead one", dead.flowers(0), 1);
        check.due("still dead", dead.player(0, 4), 1);
    }

    private static void seat() {
        LastBows x = Check.house("HP1D0090D5091");
        check.due("seat", x.seat(1, 1), 5);
        check.due("there", x.hand(1, 0), 1);
        check.due("taken", x.about(4), 3);
        check.due("claps there", x.player(0, 2), 3);
        check.due("one is there", x.seat(1, 0), LastBows.LATE);
        check.due("itself is there", x.seat(1, 1), LastBows.LATE);
        check.due("the seat left is free", x.seat(0, 5), 0);
        check.due("the last seat", x.seat(0, 9), 5);
        check.due("seat(2, 3)", x.seat(2, 3), LastBows.UNKNOWN);
        check.due("seat(-1, 3)", x.seat(-1, 3), LastBows.UNKNOWN);
        check.due("seat(0, 10)", x.seat(0, 10), LastBows.UNKNOWN);
        check.due("seat(0, -1)", x.seat(0, -1), LastBows.UNKNOWN);
        check.due("acts", x.about(7), 3);
    }

    private static void night() {
        LastBows x = Check.house("HP1P1D0050D2130");
        x.call(0);
        x.call(0);
        x.flowers(1);
        check.due("vigour", x.about(5), 7);
        check.due("night", x.night(), 8);
        check.due("over its fondness it stays", x.hand(1, 4), 4);
        check.due("night 2", x.night(), 9);
        check.due("night 3", x.night(), 9);
        check.due("THE NIGHT", x.about(2), 3);
        check.due("acts", x.about(7), 6);
        check.due("night of nobody", new LastBows().night(), 0);
    }

    private static void undoEach() {
        LastBows x = Check.house("HP1D0040D2090");
        x.flowers(0);
        check.due("flowers undone", x.undo(), 0);
        check.due("vigour", x.hand(0, 4), 4);
        check.due("vigour that was 9", x.hand(1, 4), 9);
        x.call(0);
        x.night();
        check.due("night undone", x.undo(), 1);
        check.due("THE NIGHT", x.about(2), 0);
        check.due("vigour ahead of it", x.about(5), 11);
        check.due("call undone", x.undo(), 0);
        check.due("called", x.player(0, 1), 0);
        check.due("vigour ahead of the call", x.about(5), 13);
        x.seat(0, 7);
        check.due("seat undone", x.undo(), 0);
        check.due("its seat", x.hand(0, 0), 0);
        check.due("none left", x.undo(), LastBows.LATE);
        LastBows dead = Check.house("HP7D0040");
        dead.call(0);
        check.due("death undone", dead.undo(), 0);
        check.due("alive", dead.about(3), 0);
    }

    private static void undoFull() {
        LastBows x = new LastBows();
        for (int night = 1; night <= 33; night++) {
            x.night();
            check.due("acts at night " + night, x.about(7), Math.min(night, 14));
        }
        for (int left = 13; left >= 0; left--) {
            check.due("undo", x.undo(), left);
            check.due("THE NIGHT", x.about(2), 19 + left);
        }
        check.due("none left", x.undo(), LastBows.LATE);
        check.due("THE NIGHT stays", x.about(2), 19);
        x.night();
        check.due("undo goes on", x.undo(), 0);
    }

    private static void refusedChangesNothing() {
        LastBows x = Check.house("HP7D0040D1090");
        x.call(0);
        x.call(0);
        x.call(1);
        x.flowers(1);
        x.seat(0, 1);
        x.seat(0, 0);
        x.seat(0, 10);
        check.due("refused are no acts", x.about(7), 1);
        check.due("seats", x.about(4), 3);
        check.due("vigour", x.about(5), 13);
    }
}
