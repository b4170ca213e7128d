/** Promises 20 to 22: what is heard, and whose hand it was. */
public final class HeardTest {
    private static final Check check = new Check();

    public static void main(String[] args) {
        hear();
        unhear();
        whose();
        check.end("HeardTest");
    }

    private static void hear() {
        LastBows x = new LastBows();
        check.due("t -1", x.hear(-1, 0, 0), LastBows.BAD);
        check.due("t 10", x.hear(10, 0, 0), LastBows.BAD);
        check.due("o -1", x.hear(0, -1, 0), LastBows.BAD);
        check.due("o 2", x.hear(0, 2, 0), LastBows.BAD);
        check.due("clapped -1", x.hear(0, 0, -1), LastBows.BAD);
        check.due("clapped 2", x.hear(0, 0, 2), LastBows.BAD);
        check.due("nothing heard", x.about(8), 0);
        for (int i = 1; i <= 6; i++) {
            check.due("hear " + i, x.hear(9, i % 2, 0), i);
        }
        check.due("seventh", x.hear(0, 0, 1), LastBows.FULL);
        check.due("bad when full", x.hear(0, 0, 2), LastBows.BAD);
        check.due("heard", x.about(8), 6);
        check.due("refused changes nothing", x.whose(0), 36);
    }

    private static void unhear() {
        LastBows x = new LastBows();
        check.due("nothing", x.unhear(), 0);
        x.hear(0, 0, 1);
        x.hear(0, 0, 0);
        check.due("both can't be", x.whose(0), 0);
        check.due("both", x.unhear(), 2);
        check.due("none left", x.about(8), 0);
        check.due("all fit", x.whose(0), 36);
        check.due("hear anew", x.hear(3, 0, 0), 1);
    }

    private static void whose() {
        whoseOf(36, 1);
        // Plain of 3 or more, lonely ones all.
        whoseOf(16, 3, 0, 0, 1);
        whoseOf(7, 3, 0, 1, 1);
        whoseOf(20, 1, 0, 0, 0);
        whoseOf(29, 1, 0, 1, 0);
        whoseOf(1, 9, 6, 1, 1);
        whoseOf(0, LastBows.NONE, 7, 1, 1);
        // At call 8 only a lonely one of 9 is left; at 9 nobody.
        whoseOf(1, 29, 8, 0, 1);
        whoseOf(0, LastBows.NONE, 9, 0, 1);
        whoseOf(36, 1, 9, 0, 0);
        whoseOf(9, 21, 0, 0, 1, 0, 1, 0);
        // A seventh is not heard: plain ones of 1 and 2, ushers and hissers stay.
        whoseOf(20, 1, 0, 0, 0, 0, 1, 0, 9, 0, 0, 2, 1, 0, 5, 0, 0, 0, 0, 0, 0, 0, 1);
        whoseOf(1, 24, 3, 0, 1, 4, 0, 0, 0, 1, 0);
        LastBows x = new LastBows();
        check.due("whose(2)", x.whose(2), LastBows.BAD);
        check.due("whose(-1)", x.whose(-1), LastBows.BAD);
    }

    private static void whoseOf(int howMany, int first, int... heard) {
        LastBows x = new LastBows();
        for (int i = 0; i + 2 < heard.length; i += 3) {
            x.hear(heard[i], heard[i + 1], heard[i + 2]);
        }
        check.due("how many of " + java.util.Arrays.toString(heard), x.whose(0), howMany);
        check.due("first of " + java.util.Arrays.toString(heard), x.whose(1), first);
    }
}
