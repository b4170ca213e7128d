import java.math.BigInteger;
import java.util.ArrayList;
import java.util.HashSet;
import java.util.List;
import java.util.Set;

/**
 * The document once more, written by its definitions and without regard to cost: houses by a pattern, undoing by
 * doing all but the last again, shares by every order. ModelTest holds LastBows against it.
 */
final class Model {
    private static final int UNKNOWN = -1, BAD = -2, LATE = -3, FULL = -4, NONE = -9;

    private static final class Hand {
        int number, seat, fond, fondness, kind, vigour;

        Hand copy() {
            Hand h = new Hand();
            h.number = number;
            h.seat = seat;
            h.fond = fond;
            h.fondness = fondness;
            h.kind = kind;
            h.vigour = vigour;
            return h;
        }
    }

    private static final class Player {
        int need, called;
        boolean dead;

        Player copy() {
            Player p = new Player();
            p.need = need;
            p.called = called;
            p.dead = dead;
            return p;
        }
    }

    private static final class World {
        final List<Player> players = new ArrayList<>();
        final List<Hand> hands = new ArrayList<>();
        int night;

        World copy() {
            World w = new World();
            for (Player p : players) {
                w.players.add(p.copy());
            }
            for (Hand h : hands) {
                w.hands.add(h.copy());
            }
            w.night = night;
            return w;
        }

        World without(Set<Integer> gone) {
            World w = copy();
            w.hands.removeIf(h -> gone.contains(h.number));
            return w;
        }

        Hand at(int seat) {
            for (Hand h : hands) {
                if (h.seat == seat) {
                    return h;
                }
            }
            return null;
        }

        boolean hushed(Hand h) {
            if (h.kind == 3) {
                return false;
            }
            for (int seat : new int[] {h.seat - 1, h.seat + 1}) {
                Hand beside = at(seat);
                if (beside != null && beside.kind == 3 && beside.vigour >= 1) {
                    return true;
                }
            }
            return false;
        }

        Set<Integer> claps(int player) {
            Set<Integer> claps = new HashSet<>();
            for (Hand h : hands) {
                if (h.fond == player && h.kind == 0 && h.vigour >= 3 && !hushed(h)) {
                    claps.add(h.number);
                }
            }
            boolean more = true;
            while (more) {
                more = false;
                for (Hand h : hands) {
                    if (h.fond == player && h.kind == 1 && h.vigour >= 1 && !hushed(h) && !claps.contains(h.number)) {
                        Hand left = at(h.seat - 1);
                        Hand right = at(h.seat + 1);
                        if (left != null && claps.contains(left.number) || right != null && claps.contains(right.number)) {
                            claps.add(h.number);
                            more = true;
                        }
                    }
                }
            }
            if (claps.isEmpty()) {
                for (Hand h : hands) {
                    if (h.fond == player && h.kind == 2 && h.vigour >= 1 && !hushed(h)) {
                        claps.add(h.number);
                    }
                }
            }
            return claps;
        }

        int loud(int player) {
            return claps(player).size();
        }

        boolean enough(int player) {
            return loud(player) >= players.get(player).need;
        }

        boolean called(int player) {
            Player p = players.get(player);
            if (!enough(player)) {
                p.dead = true;
                return false;
            }
            Set<Integer> claps = claps(player);
            for (Hand h : hands) {
                if (claps.contains(h.number)) {
                    h.vigour--;
                }
            }
            p.called++;
            return true;
        }

        void flowers(int player) {
            for (Hand h : hands) {
                if (h.fond == player && h.vigour < 9) {
                    h.vigour++;
                }
            }
        }

        void nightfall() {
            for (Hand h : hands) {
                if (h.vigour < h.fondness) {
                    h.vigour++;
                }
            }
            night++;
        }

        int yet(int player) {
            World w = copy();
            int times = 0;
            while (w.called(player)) {
                times++;
            }
            return times;
        }

        int vigour() {
            return hands.stream().mapToInt(h -> h.vigour).sum();
        }

        /** An act: kind 1 called, 2 flowers, 3 seated, 4 a night. */
        void act(int[] act) {
            switch (act[0]) {
                case 1 -> called(act[1]);
                case 2 -> flowers(act[1]);
                case 3 -> hands.get(act[1]).seat = act[2];
                default -> nightfall();
            }
        }
    }

    private final StringBuilder text = new StringBuilder();
    private World world = new World();
    private World base = new World();
    private final List<int[]> acts = new ArrayList<>();
    private final List<int[]> heard = new ArrayList<>();
    private long seed = 0;
    private final World[] slots = new World[2];

    // ---- the house

    int write(int letter) {
        if (letter < 0 || letter > 255) {
            return BAD;
        }
        if (text.length() == 48) {
            return FULL;
        }
        text.append((char) letter);
        return text.length();
    }

    int wipe() {
        int was = text.length();
        text.setLength(0);
        return was;
    }

    private static World read(String text) {
        if (!text.matches("(?s)H(P[1-7]|D[0-9][0-2][1-9][0-3])*")) {
            return null;
        }
        World w = new World();
        for (int i = 1; i < text.length(); ) {
            if (text.charAt(i) == 'P') {
                Player p = new Player();
                p.need = text.charAt(i + 1) - '0';
                w.players.add(p);
                i += 2;
            } else {
                Hand h = new Hand();
                h.number = w.hands.size();
                h.seat = text.charAt(i + 1) - '0';
                h.fond = text.charAt(i + 2) - '0';
                h.fondness = text.charAt(i + 3) - '0';
                h.kind = text.charAt(i + 4) - '0';
                h.vigour = h.fondness;
                if (h.fond >= w.players.size() || w.at(h.seat) != null) {
                    return null;
                }
                w.hands.add(h);
                i += 5;
            }
        }
        return w.players.size() > 3 || w.hands.size() > 7 ? null : w;
    }

    /** Whether something could come behind so that it were a house. */
    private static boolean canBe(String start) {
        if (start.isEmpty() || read(start) != null || read(start + "1") != null) {
            return true;
        }
        for (int seat = 0; seat <= 9; seat++) {
            String rest = seat + "010";
            for (int from = 0; from < 4; from++) {
                if (read(start + rest.substring(from)) != null) {
                    return true;
                }
            }
        }
        return false;
    }

    int fault() {
        for (int i = 0; i < text.length(); i++) {
            if (!canBe(text.substring(0, i + 1))) {
                return i;
            }
        }
        return read(text.toString()) == null ? text.length() : NONE;
    }

    int house() {
        World told = read(text.toString());
        if (told == null) {
            return LATE;
        }
        start(told);
        slots[0] = null;
        slots[1] = null;
        return 10 * told.players.size() + told.hands.size();
    }

    private void start(World from) {
        world = from.copy();
        base = from.copy();
        acts.clear();
    }

    private static int bits(Set<Integer> numbers) {
        int bits = 0;
        for (int number : numbers) {
            bits += 1 << number;
        }
        return bits;
    }

    int about(int what) {
        Set<Integer> them = new HashSet<>();
        switch (what) {
            case 0:
                return world.players.size();
            case 1:
                return world.hands.size();
            case 2:
                return world.night;
            case 3:
                for (int p = 0; p < world.players.size(); p++) {
                    if (world.players.get(p).dead) {
                        them.add(p);
                    }
                }
                return bits(them);
            case 4:
                world.hands.forEach(h -> them.add(h.seat));
                return bits(them);
            case 5:
                return world.vigour();
            case 6:
                world.hands.stream().filter(world::hushed).forEach(h -> them.add(h.number));
                return bits(them);
            case 7:
                return acts.size();
            case 8:
                return heard.size();
            case 9:
                return text.length();
            default:
                return BAD;
        }
    }

    private boolean noPlayer(int player) {
        return player < 0 || player >= world.players.size();
    }

    private boolean noHand(int hand) {
        return hand < 0 || hand >= world.hands.size();
    }

    private boolean dead(int player) {
        return world.players.get(player).dead;
    }

    int player(int player, int what) {
        if (noPlayer(player)) {
            return UNKNOWN;
        }
        Player p = world.players.get(player);
        return switch (what) {
            case 0 -> p.need;
            case 1 -> p.called;
            case 2 -> bits(world.claps(player));
            case 3 -> world.loud(player);
            case 4 -> p.dead ? 1 : 0;
            default -> BAD;
        };
    }

    int hand(int hand, int what) {
        if (noHand(hand)) {
            return UNKNOWN;
        }
        Hand h = world.hands.get(hand);
        return switch (what) {
            case 0 -> h.seat;
            case 1 -> h.fond;
            case 2 -> h.fondness;
            case 3 -> h.kind;
            case 4 -> h.vigour;
            case 5 -> world.hushed(h) ? 1 : 0;
            default -> BAD;
        };
    }

    // ---- acts

    private void act(int... act) {
        acts.add(act);
        world.act(act);
        if (acts.size() > 14) {
            base.act(acts.remove(0));
        }
    }

    int call(int player) {
        if (noPlayer(player)) {
            return UNKNOWN;
        }
        if (dead(player)) {
            return LATE;
        }
        int loud = world.loud(player);
        act(1, player);
        return loud;
    }

    int flowers(int player) {
        if (noPlayer(player)) {
            return UNKNOWN;
        }
        act(2, player);
        return world.loud(player);
    }

    int seat(int hand, int seat) {
        if (noHand(hand) || seat < 0 || seat > 9) {
            return UNKNOWN;
        }
        if (world.at(seat) != null) {
            return LATE;
        }
        int was = world.hands.get(hand).seat;
        act(3, hand, seat);
        return was;
    }

    int night() {
        act(4);
        return world.vigour();
    }

    int undo() {
        if (acts.isEmpty()) {
            return LATE;
        }
        acts.remove(acts.size() - 1);
        world = base.copy();
        for (int[] act : acts) {
            world.act(act);
        }
        return acts.size();
    }

    // ---- calls to come

    int yet(int player) {
        return noPlayer(player) ? UNKNOWN : dead(player) ? LATE : world.yet(player);
    }

    int best(int hand, int what) {
        if (noHand(hand)) {
            return UNKNOWN;
        }
        if (what != 0 && what != 1) {
            return BAD;
        }
        int player = world.hands.get(hand).fond;
        if (dead(player)) {
            return LATE;
        }
        int best = 0;
        int most = -1;
        for (int seat = 9; seat >= 0; seat--) {
            Hand there = world.at(seat);
            if (there == null || there.number == hand) {
                World w = world.copy();
                w.hands.get(hand).seat = seat;
                int times = w.yet(player);
                if (times >= most) {
                    most = times;
                    best = seat;
                }
            }
        }
        return what == 0 ? best : most;
    }

    int wants(int player, int n) {
        if (noPlayer(player)) {
            return UNKNOWN;
        }
        if (n < 1 || n > 9) {
            return BAD;
        }
        if (dead(player)) {
            return LATE;
        }
        World w = world.copy();
        for (int flowers = 0; flowers <= 9; flowers++) {
            if (w.yet(player) >= n) {
                return flowers;
            }
            w.flowers(player);
        }
        return NONE;
    }

    private Set<Integer> numbers(int bits) {
        Set<Integer> numbers = new HashSet<>();
        for (int i = 0; i < 7; i++) {
            if ((bits & 1 << i) != 0) {
                numbers.add(i);
            }
        }
        return numbers;
    }

    int still(int player) {
        if (noPlayer(player)) {
            return UNKNOWN;
        }
        if (dead(player)) {
            return LATE;
        }
        for (int size = 0; size <= 7; size++) {
            for (int bits = 0; bits < 128; bits++) {
                if (numbers(bits).size() == size && world.without(numbers(bits)).yet(player) == 0) {
                    return bits;
                }
            }
        }
        throw new AssertionError("with all sent home he is called");
    }

    int judge(int n, long row) {
        if (n < 1 || n > 4 || row < 0 || Long.toString(row).length() > 3 * n) {
            return BAD;
        }
        String figures = String.format("%0" + 3 * n + "d", row);
        World w = world.copy();
        for (int place = 0; place < n; place++) {
            if (!so(w, figures.charAt(3 * place), figures.charAt(3 * place + 1) - '0', figures.charAt(3 * place + 2) - '0')) {
                return place;
            }
        }
        return NONE;
    }

    private boolean so(World w, char verb, int a, int b) {
        boolean ofPlayer = a == 0 && !noPlayer(b);
        switch (verb) {
            case '1':
                return ofPlayer && !w.players.get(b).dead && w.called(b);
            case '2':
                if (ofPlayer) {
                    w.flowers(b);
                }
                return ofPlayer;
            case '3':
                if (noHand(a) || w.at(b) != null) {
                    return false;
                }
                w.hands.get(a).seat = b;
                return true;
            case '4':
                w.nightfall();
                return a == 0 && b == 0;
            case '5':
                return ofPlayer && !w.players.get(b).dead;
            case '6':
                return !noPlayer(a) && w.loud(a) >= b;
            default:
                return false;
        }
    }

    private static int fraction(BigInteger above, BigInteger below, boolean upper) {
        BigInteger common = above.gcd(below);
        return (upper ? above : below).divide(common).intValueExact();
    }

    int share(int hand, int player, boolean upper) {
        if (noHand(hand) || noPlayer(player)) {
            return UNKNOWN;
        }
        int[] loud = new int[128];
        for (int there = 0; there < 1 << world.hands.size(); there++) {
            loud[there] = world.without(numbers(127 & ~there)).loud(player);
        }
        long[] sum = new long[2];
        eachOrder(0, hand, loud, sum);
        return fraction(BigInteger.valueOf(sum[0]), BigInteger.valueOf(sum[1]), upper);
    }

    private void eachOrder(int there, int hand, int[] loud, long[] sum) {
        boolean all = true;
        for (int next = 0; next < world.hands.size(); next++) {
            if ((there & 1 << next) == 0) {
                all = false;
                long orders = sum[1];
                eachOrder(there | 1 << next, hand, loud, sum);
                if (next == hand) {
                    sum[0] += (sum[1] - orders) * (loud[there | 1 << next] - loud[there]);
                }
            }
        }
        if (all) {
            sum[1]++;
        }
    }

    // ---- heard

    int hear(int t, int o, int clapped) {
        if (t < 0 || t > 9 || o < 0 || o > 1 || clapped < 0 || clapped > 1) {
            return BAD;
        }
        if (heard.size() == 6) {
            return FULL;
        }
        heard.add(new int[] {t, o, clapped});
        return heard.size();
    }

    int unhear() {
        int was = heard.size();
        heard.clear();
        return was;
    }

    int whose(int what) {
        if (what != 0 && what != 1) {
            return BAD;
        }
        List<Integer> fitting = new ArrayList<>();
        for (int kind = 0; kind <= 3; kind++) {
            for (int fondness = 1; fondness <= 9; fondness++) {
                int k = kind;
                int f = fondness;
                if (heard.stream().allMatch(h -> clapsAtLast(k, f, h[0], h[1]) == (h[2] == 1))) {
                    fitting.add(10 * kind + fondness);
                }
            }
        }
        return what == 0 ? fitting.size() : fitting.isEmpty() ? NONE : fitting.get(0);
    }

    private static boolean clapsAtLast(int kind, int fondness, int t, int o) {
        int vigour = fondness;
        boolean claps = false;
        for (int call = 0; call <= t; call++) {
            claps = kind == 0 && vigour >= 3 || kind == 2 && vigour >= 1 && o == 0;
            vigour -= claps ? 1 : 0;
        }
        return claps;
    }

    // ---- rests, chances

    int rests(int one, int other, int what) {
        if (noHand(one) || noHand(other)) {
            return UNKNOWN;
        }
        if (one == other || what != 0 && what != 1) {
            return BAD;
        }
        if (world.hands.get(one).fond != world.hands.get(other).fond) {
            return LATE;
        }
        int[][][] has = new int[2][2][];
        for (int a = 0; a < 2; a++) {
            for (int b = 0; b < 2; b++) {
                has[a][b] = gains(one, other, a, b);
            }
        }
        List<Integer> rests = new ArrayList<>();
        for (int a = 0; a < 2; a++) {
            for (int b = 0; b < 2; b++) {
                if (has[1 - a][b][0] <= has[a][b][0] && has[a][1 - b][1] <= has[a][b][1]) {
                    rests.add(10 * a + b);
                }
            }
        }
        return what == 0 ? rests.size() : rests.isEmpty() ? NONE : rests.get(0);
    }

    private int[] gains(int one, int other, int a, int b) {
        Set<Integer> gone = new HashSet<>();
        if (a == 0) {
            gone.add(one);
        }
        if (b == 0) {
            gone.add(other);
        }
        int player = world.hands.get(one).fond;
        World w = world.without(gone);
        int common = w.enough(player) ? 3 : 0;
        Set<Integer> claps = w.claps(player);
        return new int[] {common - (claps.contains(one) ? 1 : 0), common - (claps.contains(other) ? 1 : 0)};
    }

    int away(int player, int x, boolean upper) {
        if (noPlayer(player)) {
            return UNKNOWN;
        }
        if (x < 0 || x > 10) {
            return BAD;
        }
        BigInteger above = awayFrom(0, new HashSet<>(), player, x);
        return fraction(above, BigInteger.TEN.pow(world.hands.size()), upper);
    }

    private BigInteger awayFrom(int hand, Set<Integer> gone, int player, int x) {
        if (hand == world.hands.size()) {
            return world.without(gone).enough(player) ? BigInteger.ONE : BigInteger.ZERO;
        }
        BigInteger stays = awayFrom(hand + 1, gone, player, x).multiply(BigInteger.valueOf(10 - x));
        gone.add(hand);
        BigInteger goes = awayFrom(hand + 1, gone, player, x).multiply(BigInteger.valueOf(x));
        gone.remove(hand);
        return stays.add(goes);
    }

    long seed(long v) {
        long was = seed;
        seed = v;
        return was;
    }

    int seasons(int m) {
        if (m < 1 || m > 30) {
            return BAD;
        }
        BigInteger whole = BigInteger.ONE.shiftLeft(64);
        World w = world.copy();
        int sum = 0;
        for (int i = 0; i < m; i++) {
            BigInteger next = BigInteger.valueOf(seed).multiply(new BigInteger("6364136223846793005"))
                .add(new BigInteger("1442695040888963407")).mod(whole);
            seed = next.longValue();
            int lot = next.shiftRight(33).mod(BigInteger.valueOf(24)).intValue();
            if (lot <= 5) {
                if (!noPlayer(lot % 3) && !w.players.get(lot % 3).dead) {
                    w.called(lot % 3);
                }
            } else if (lot <= 8) {
                w.flowers(lot - 6);
            } else if (lot <= 18) {
                if (!noHand(0) && w.at(lot - 9) == null) {
                    w.hands.get(0).seat = lot - 9;
                }
            } else {
                w.nightfall();
            }
            sum += w.players.stream().mapToInt(p -> p.called).sum();
        }
        return sum;
    }

    // ---- slots

    int keep(int slot) {
        if (slot != 0 && slot != 1) {
            return UNKNOWN;
        }
        slots[slot] = world.copy();
        return world.night;
    }

    int again(int slot) {
        if (slot != 0 && slot != 1) {
            return UNKNOWN;
        }
        if (slots[slot] == null) {
            return LATE;
        }
        start(slots[slot]);
        return world.night;
    }
}
