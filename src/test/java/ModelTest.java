import java.util.Random;

/** All promises: long runs of calls, drawn by fixed seeds, each answered by LastBows and by Model. */
public final class ModelTest {
    private static final Check check = new Check();
    private static final int RUNS = 2500;
    /** What an object answers behind its 512th call is free, so a run ends where one more turn could go beyond. */
    private static final int MOST_CALLS = 512;
    private static final int MOST_OF_A_TURN = 80;

    private final Random random;
    private final String name;
    private final LastBows bows = new LastBows();
    private final Model model = new Model();
    private int calls = 0;

    private ModelTest(int run) {
        random = new Random(run);
        name = "run " + run + ": ";
    }

    public static void main(String[] args) {
        for (int run = 0; run < RUNS; run++) {
            new ModelTest(run).go(run % 10 == 0);
        }
        check.end("ModelTest");
    }

    private void go(boolean fromNobody) {
        if (!fromNobody) {
            tell(drawHouse());
            due("house()", bows.house(), model.house());
        }
        while (calls <= MOST_CALLS - MOST_OF_A_TURN) {
            int draw = random.nextInt(100);
            if (draw < 30) {
                act();
            } else if (draw < 55) {
                look();
            } else if (draw < 80) {
                lookAhead();
            } else if (draw < 90) {
                hearOrSeason();
            } else if (draw < 95) {
                slot();
            } else if (draw < 98) {
                text();
            } else {
                tell(drawHouse());
                due("house()", bows.house(), model.house());
            }
        }
        check.holds(name + calls + " calls are within what is promised", calls <= MOST_CALLS);
    }

    private void due(String call, long got, long want) {
        calls++;
        check.due(name + call, got, want);
    }

    /** A number from 0 to most, now and then one that is out of bounds. */
    private int upTo(int most) {
        int draw = random.nextInt(60);
        if (draw == 0) {
            return random.nextBoolean() ? -1 : most + 1;
        }
        if (draw == 1) {
            int[] far = {Integer.MIN_VALUE, Integer.MAX_VALUE, 64, 32, 31, -64};
            return far[random.nextInt(far.length)];
        }
        return random.nextInt(most + 1);
    }

    private String drawHouse() {
        StringBuilder text = new StringBuilder("H");
        int players = 0;
        int hands = 0;
        int taken = 0;
        int toTell = random.nextInt(4) == 0 ? random.nextInt(11) : 10;
        boolean fewKinds = random.nextInt(3) == 0;
        for (int i = 0; i < toTell; i++) {
            boolean player = players == 0 || players < 3 && random.nextInt(4) == 0;
            if (player) {
                text.append('P').append(random.nextInt(5) == 0 ? 1 + random.nextInt(7) : 1 + random.nextInt(3));
                players++;
            } else if (hands < 7) {
                int seat = random.nextInt(10);
                while ((taken >> seat & 1) == 1) {
                    seat = (seat + 1) % 10;
                }
                taken |= 1 << seat;
                int kind = fewKinds ? random.nextInt(2) : random.nextInt(4);
                text.append('D').append(seat).append(random.nextInt(players)).append(1 + random.nextInt(9)).append(kind);
                hands++;
            }
        }
        return text.toString();
    }

    private void tell(String text) {
        due("wipe()", bows.wipe(), model.wipe());
        for (int i = 0; i < text.length(); i++) {
            due("write()", bows.write(text.charAt(i)), model.write(text.charAt(i)));
        }
    }

    private void text() {
        StringBuilder text = new StringBuilder(drawHouse());
        for (int i = random.nextInt(3); i > 0; i--) {
            int place = random.nextInt(text.length());
            switch (random.nextInt(3)) {
                case 0 -> text.setCharAt(place, (char) random.nextInt(256));
                case 1 -> text.setCharAt(place, "HPD0123456789".charAt(random.nextInt(13)));
                default -> text.insert(place, "HPD0123456789".charAt(random.nextInt(13)));
            }
        }
        if (random.nextBoolean()) {
            text.setLength(random.nextInt(text.length() + 1));
        } else if (random.nextInt(4) == 0) {
            text.append("P1D7010PD".repeat(3));
        }
        tell(text.toString());
        due("fault() of " + text, bows.fault(), model.fault());
        int letter = upTo(255);
        due("write(" + letter + ")", bows.write(letter), model.write(letter));
        due("fault()", bows.fault(), model.fault());
        if (random.nextInt(3) == 0) {
            due("house()", bows.house(), model.house());
        }
    }

    private void act() {
        int player = upTo(2);
        int hand = upTo(6);
        int seat = upTo(9);
        switch (random.nextInt(6)) {
            case 0, 1 -> due("call(" + player + ")", bows.call(player), model.call(player));
            case 2 -> due("flowers(" + player + ")", bows.flowers(player), model.flowers(player));
            case 3 -> due("seat(" + hand + ", " + seat + ")", bows.seat(hand, seat), model.seat(hand, seat));
            case 4 -> due("night()", bows.night(), model.night());
            default -> {
                for (int i = random.nextInt(random.nextInt(8) == 0 ? 16 : 3); i >= 0; i--) {
                    due("undo()", bows.undo(), model.undo());
                }
            }
        }
    }

    private void look() {
        int what = upTo(9);
        int player = upTo(2);
        int hand = upTo(6);
        int of = upTo(5);
        due("about(" + what + ")", bows.about(what), model.about(what));
        due("player(" + player + ", " + of + ")", bows.player(player, of), model.player(player, of));
        due("hand(" + hand + ", " + of + ")", bows.hand(hand, of), model.hand(hand, of));
    }

    private void lookAhead() {
        int player = upTo(2);
        int hand = upTo(6);
        int other = upTo(6);
        int what = upTo(1);
        boolean upper = random.nextBoolean();
        switch (random.nextInt(9)) {
            case 0 -> due("yet(" + player + ")", bows.yet(player), model.yet(player));
            case 1 -> due("best(" + hand + ", " + what + ")", bows.best(hand, what), model.best(hand, what));
            case 2 -> {
                int n = upTo(10);
                due("wants(" + player + ", " + n + ")", bows.wants(player, n), model.wants(player, n));
            }
            case 3 -> {
                if (random.nextInt(3) == 0) {
                    due("still(" + player + ")", bows.still(player), model.still(player));
                }
            }
            case 4, 5 -> {
                int doings = 1 + random.nextInt(4);
                int n = random.nextInt(6) == 0 ? upTo(5) : doings;
                long row = drawRow(doings);
                due("judge(" + n + ", " + row + ")", bows.judge(n, row), model.judge(n, row));
            }
            case 6 -> {
                if (random.nextInt(3) == 0) {
                    due("share(" + hand + ", " + player + ", " + upper + ")",
                        bows.share(hand, player, upper), model.share(hand, player, upper));
                }
            }
            case 7 -> due("rests(" + hand + ", " + other + ", " + what + ")",
                bows.rests(hand, other, what), model.rests(hand, other, what));
            default -> {
                int x = upTo(10);
                due("away(" + player + ", " + x + ", " + upper + ")",
                    bows.away(player, x, upper), model.away(player, x, upper));
            }
        }
    }

    private long drawRow(int doings) {
        if (random.nextInt(20) == 0) {
            return random.nextLong() >> random.nextInt(64);
        }
        long row = 0;
        for (int i = 0; i < doings; i++) {
            int verb = random.nextInt(15) == 0 ? random.nextInt(10) : 1 + random.nextInt(6);
            int middle = verb == 3 ? random.nextInt(8) : verb == 6 ? random.nextInt(4) : 0;
            int last = verb == 3 ? random.nextInt(10) : verb == 4 ? 0 : random.nextInt(3);
            if (random.nextInt(30) == 0) {
                middle = random.nextInt(10);
                last = random.nextInt(10);
            }
            row = 1000 * row + 100 * verb + 10 * middle + last;
        }
        return row;
    }

    private void hearOrSeason() {
        switch (random.nextInt(5)) {
            case 0, 1 -> {
                int t = upTo(9);
                int o = upTo(1);
                int clapped = upTo(1);
                due("hear(" + t + ", " + o + ", " + clapped + ")", bows.hear(t, o, clapped), model.hear(t, o, clapped));
                for (int what = 0; what <= 1; what++) {
                    due("whose(" + what + ")", bows.whose(what), model.whose(what));
                }
            }
            case 2 -> due("unhear()", bows.unhear(), model.unhear());
            case 3 -> {
                long v = random.nextLong();
                due("seed(" + v + ")", bows.seed(v), model.seed(v));
            }
            default -> {
                int m = upTo(31);
                due("seasons(" + m + ")", bows.seasons(m), model.seasons(m));
                int what = upTo(2);
                due("whose(" + what + ")", bows.whose(what), model.whose(what));
            }
        }
    }

    private void slot() {
        int slot = upTo(1);
        if (random.nextBoolean()) {
            due("keep(" + slot + ")", bows.keep(slot), model.keep(slot));
        } else {
            due("again(" + slot + ")", bows.again(slot), model.again(slot));
        }
    }
}
