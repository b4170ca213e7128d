import java.util.ArrayList;
import java.util.List;

/** Two houses that have come the same way: what one of them was asked besides must not be seen in it. */
final class Twins {
    private static final int PLAYERS = 3;
    private static final int HANDS = 4;

    interface Calls {
        void on(LastBows bows);
    }

    private Twins() {
    }

    /** A house with acts of each kind, one dead (player 1), both slots, things heard, a seed, and a faulty text. */
    static LastBows lived() {
        LastBows bows = Check.house("HP1P7P2D0050D2191D4013D9292");
        bows.night();
        bows.call(0);
        bows.keep(0);
        bows.seat(0, 6);
        bows.call(1);
        bows.keep(1);
        bows.flowers(2);
        bows.hear(0, 0, 1);
        bows.hear(3, 1, 0);
        bows.seed(77);
        bows.write('P');
        bows.write('?');
        return bows;
    }

    static void changeNothing(Check check, Calls calls) {
        changeNothing(check, lived(), lived(), calls);
    }

    static void changeNothing(Check check, LastBows touched, LastBows twin, Calls calls) {
        calls.on(touched);
        check.same("nothing is changed", trace(touched), trace(twin));
    }

    /** All that can be seen of a house of three players and four hands; uses up its acts, so it is the last look. */
    static List<Long> trace(LastBows bows) {
        List<Long> seen = new ArrayList<>();
        for (int what = 0; what <= 9; what++) {
            seen.add((long) bows.about(what));
        }
        for (int player = 0; player < PLAYERS; player++) {
            for (int what = 0; what <= 4; what++) {
                seen.add((long) bows.player(player, what));
            }
        }
        for (int hand = 0; hand < HANDS; hand++) {
            for (int what = 0; what <= 5; what++) {
                seen.add((long) bows.hand(hand, what));
            }
        }
        seen.add((long) bows.fault());
        seen.add((long) bows.whose(0));
        seen.add((long) bows.whose(1));
        for (int left = 14; left >= 0; left--) {
            int answer = bows.undo();
            seen.add((long) answer);
            if (answer == LastBows.LATE) {
                break;
            }
            moment(bows, seen);
        }
        for (int slot = 0; slot <= 1; slot++) {
            seen.add((long) bows.again(slot));
            moment(bows, seen);
        }
        seen.add(bows.seed(0));
        return seen;
    }

    private static void moment(LastBows bows, List<Long> seen) {
        for (int what = 2; what <= 7; what++) {
            seen.add((long) bows.about(what));
        }
        for (int player = 0; player < PLAYERS; player++) {
            seen.add((long) bows.player(player, 1));
        }
        for (int hand = 0; hand < HANDS; hand++) {
            seen.add((long) bows.hand(hand, 0));
            seen.add((long) bows.hand(hand, 4));
        }
    }
}
