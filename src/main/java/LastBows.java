/** A house of players who are alive as long as they are clapped out again. */
public final class LastBows {
    public static final int UNKNOWN = -1, BAD = -2, LATE = -3, FULL = -4, NONE = -9;

    private static final int MOST_BYTES = 48;
    private static final int MOST_PLAYERS = 3;
    private static final int MOST_HANDS = 7;
    private static final int MOST_NEED = 7;
    private static final int MOST_VIGOUR = 9;
    private static final int MOST_ACTS = 14;
    private static final int MOST_HEARD = 6;
    private static final int MOST_YET = 80;
    private static final int MOST_FLOWERS = 9;
    private static final int MOST_DOINGS = 4;
    private static final int MOST_SEASONS = 30;
    private static final int SEATS = 10;
    private static final int SLOTS = 2;
    private static final int TENTHS = 10;
    private static final long SEED_FACTOR = 6364136223846793005L;
    private static final long SEED_ADDEND = 1442695040888963407L;

    private static final int PLAIN = 0;
    private static final int USHER = 1;
    private static final int LONELY = 2;
    private static final int HISSER = 3;

    private final Script script = new Script();
    private final Cast cast = new Cast();
    private final Cast draft = new Cast();
    private final Moment now = new Moment(cast);
    private final Acts acts = new Acts(cast);
    private final Outlook outlook = new Outlook(cast);
    private final Chances chances = new Chances(cast);
    private final Heard heard = new Heard();
    private final Slots slots = new Slots(cast);

    public LastBows() {
    }

    // ---- the house

    public int write(int letter) {
        if (letter < 0 || letter > 255) {
            return BAD;
        }
        return script.append(letter);
    }

    public int wipe() {
        return script.empty();
    }

    public int fault() {
        return script.tellTo(draft);
    }

    public int house() {
        if (script.tellTo(draft) != NONE) {
            return LATE;
        }
        script.tellTo(cast);
        now.begin();
        acts.forget();
        slots.forget();
        return 10 * cast.players + cast.hands;
    }

    public int about(int what) {
        switch (what) {
            case 0:
                return cast.players;
            case 1:
                return cast.hands;
            case 2:
                return now.nights;
            case 3:
                return now.dead;
            case 4:
                return now.takenSeats();
            case 5:
                return now.allVigour();
            case 6:
                return now.hushed(cast.everyHand());
            case 7:
                return acts.count;
            case 8:
                return heard.count;
            case 9:
                return script.length;
            default:
                return BAD;
        }
    }

    public int player(int player, int what) {
        if (!cast.hasPlayer(player)) {
            return UNKNOWN;
        }
        switch (what) {
            case 0:
                return cast.needOf[player];
            case 1:
                return now.calledOf[player];
            case 2:
                return now.clapping(player, cast.everyHand());
            case 3:
                return now.loud(player, cast.everyHand());
            case 4:
                return now.isDead(player) ? 1 : 0;
            default:
                return BAD;
        }
    }

    public int hand(int hand, int what) {
        if (!cast.hasHand(hand)) {
            return UNKNOWN;
        }
        switch (what) {
            case 0:
                return now.seatOf[hand];
            case 1:
                return cast.fondOf[hand];
            case 2:
                return cast.fondnessOf[hand];
            case 3:
                return cast.kindOf[hand];
            case 4:
                return now.vigourOf[hand];
            case 5:
                return now.hushed(cast.everyHand()) >> hand & 1;
            default:
                return BAD;
        }
    }

    // ---- acts

    public int call(int player) {
        if (!cast.hasPlayer(player)) {
            return UNKNOWN;
        }
        if (now.isDead(player)) {
            return LATE;
        }
        acts.note(now);
        int loud = now.loud(player, cast.everyHand());
        now.bringOut(player);
        return loud;
    }

    public int flowers(int player) {
        if (!cast.hasPlayer(player)) {
            return UNKNOWN;
        }
        acts.note(now);
        now.strew(player, 1);
        return now.loud(player, cast.everyHand());
    }

    public int seat(int hand, int seat) {
        if (!cast.hasHand(hand) || !isSeat(seat)) {
            return UNKNOWN;
        }
        if (now.isTaken(seat)) {
            return LATE;
        }
        acts.note(now);
        int was = now.seatOf[hand];
        now.seatOf[hand] = seat;
        return was;
    }

    public int night() {
        acts.note(now);
        now.sleep();
        return now.allVigour();
    }

    public int undo() {
        if (acts.count == 0) {
            return LATE;
        }
        acts.takeBack(now);
        return acts.count;
    }

    // ---- calls to come

    public int yet(int player) {
        if (!cast.hasPlayer(player)) {
            return UNKNOWN;
        }
        if (now.isDead(player)) {
            return LATE;
        }
        return outlook.comings(now, player);
    }

    public int best(int hand, int what) {
        if (!cast.hasHand(hand)) {
            return UNKNOWN;
        }
        if (!isEitherOr(what)) {
            return BAD;
        }
        if (now.isDead(cast.fondOf[hand])) {
            return LATE;
        }
        return outlook.bestSeat(now, hand, what == 1);
    }

    public int wants(int player, int n) {
        if (!cast.hasPlayer(player)) {
            return UNKNOWN;
        }
        if (n < 1 || n > 9) {
            return BAD;
        }
        if (now.isDead(player)) {
            return LATE;
        }
        return outlook.fewestFlowers(now, player, n);
    }

    public int still(int player) {
        if (!cast.hasPlayer(player)) {
            return UNKNOWN;
        }
        if (now.isDead(player)) {
            return LATE;
        }
        return outlook.fewestSentHome(now, player);
    }

    public int judge(int n, long row) {
        if (n < 1 || n > MOST_DOINGS) {
            return BAD;
        }
        long unit = 1;
        for (int doing = 1; doing < n; doing++) {
            unit *= 1000;
        }
        if (row < 0 || row / 1000 >= unit) {
            return BAD;
        }
        return outlook.firstNotSo(now, n, unit, row);
    }

    public int share(int hand, int player, boolean upper) {
        if (!cast.hasHand(hand) || !cast.hasPlayer(player)) {
            return UNKNOWN;
        }
        return chances.meanLouder(now, hand, player, upper);
    }

    // ---- heard

    public int hear(int t, int o, int clapped) {
        if (t < 0 || t > 9 || !isEitherOr(o) || !isEitherOr(clapped)) {
            return BAD;
        }
        return heard.note(t, o, clapped);
    }

    public int unhear() {
        return heard.forget();
    }

    public int whose(int what) {
        if (!isEitherOr(what)) {
            return BAD;
        }
        return what == 0 ? heard.countFitting() : heard.firstFitting();
    }

    // ---- rests, chances

    public int rests(int one, int other, int what) {
        if (!cast.hasHand(one) || !cast.hasHand(other)) {
            return UNKNOWN;
        }
        if (one == other || !isEitherOr(what)) {
            return BAD;
        }
        if (cast.fondOf[one] != cast.fondOf[other]) {
            return LATE;
        }
        return what == 0 ? chances.countRests(now, one, other) : chances.firstRest(now, one, other);
    }

    public int away(int player, int x, boolean upper) {
        if (!cast.hasPlayer(player)) {
            return UNKNOWN;
        }
        if (x < 0 || x > TENTHS) {
            return BAD;
        }
        return chances.enoughStay(now, player, x, upper);
    }

    public long seed(long v) {
        long was = chances.grain;
        chances.grain = v;
        return was;
    }

    public int seasons(int m) {
        if (m < 1 || m > MOST_SEASONS) {
            return BAD;
        }
        return chances.playSeasons(now, m);
    }

    // ---- slots

    public int keep(int slot) {
        if (!isSlot(slot)) {
            return UNKNOWN;
        }
        slots.put(slot, now);
        return now.nights;
    }

    public int again(int slot) {
        if (!isSlot(slot)) {
            return UNKNOWN;
        }
        if (!slots.full[slot]) {
            return LATE;
        }
        now.copyFrom(slots.moments[slot]);
        acts.forget();
        return now.nights;
    }

    private static boolean isSeat(int seat) {
        return seat >= 0 && seat < SEATS;
    }

    private static boolean isSlot(int slot) {
        return slot >= 0 && slot < SLOTS;
    }

    private static boolean isEitherOr(int what) {
        return what == 0 || what == 1;
    }

    /** The text, and the reading of it. */
    private static final class Script {
        final int[] bytes = new int[MOST_BYTES];
        int length;

        int append(int letter) {
            if (length >= MOST_BYTES) {
                return FULL;
            }
            bytes[length] = letter;
            length++;
            return length;
        }

        int empty() {
            int was = length;
            length = 0;
            return was;
        }

        /** Reads the text into a cast as far as it goes well, and answers the fault. */
        int tellTo(Cast into) {
            into.clear();
            if (length == 0 || bytes[0] != 'H') {
                return 0;
            }
            int at = 1;
            while (at < length) {
                int wrong = bytes[at] == 'P' ? readPlayer(at, into) : readHand(at, into);
                if (wrong != NONE) {
                    return wrong;
                }
                at += bytes[at] == 'P' ? 2 : 5;
            }
            return NONE;
        }

        private int readPlayer(int at, Cast into) {
            if (into.players >= MOST_PLAYERS) {
                return at;
            }
            if (at + 1 >= length) {
                return length;
            }
            int need = bytes[at + 1] - '0';
            if (need < 1 || need > MOST_NEED) {
                return at + 1;
            }
            into.addPlayer(need);
            return NONE;
        }

        private int readHand(int at, Cast into) {
            // Without a player told ahead no figures behind the D could mend it.
            if (bytes[at] != 'D' || into.players == 0 || into.hands >= MOST_HANDS) {
                return at;
            }
            for (int part = 1; part <= 4; part++) {
                if (at + part >= length) {
                    return length;
                }
                if (!fits(part, bytes[at + part] - '0', into)) {
                    return at + part;
                }
            }
            into.addHand(bytes[at + 1] - '0', bytes[at + 2] - '0', bytes[at + 3] - '0', bytes[at + 4] - '0');
            return NONE;
        }

        private static boolean fits(int part, int figure, Cast into) {
            switch (part) {
                case 1:
                    return isSeat(figure) && (into.toldSeats >> figure & 1) == 0;
                case 2:
                    return into.hasPlayer(figure);
                case 3:
                    return figure >= 1 && figure <= MOST_VIGOUR;
                default:
                    return figure >= PLAIN && figure <= HISSER;
            }
        }
    }

    /** What the text tells of players and hands, which no act changes. */
    private static final class Cast {
        int players;
        int hands;
        int toldSeats;
        final int[] needOf = new int[MOST_PLAYERS];
        final int[] firstSeatOf = new int[MOST_HANDS];
        final int[] fondOf = new int[MOST_HANDS];
        final int[] fondnessOf = new int[MOST_HANDS];
        final int[] kindOf = new int[MOST_HANDS];

        void clear() {
            players = 0;
            hands = 0;
            toldSeats = 0;
        }

        void addPlayer(int need) {
            if (players < MOST_PLAYERS) {
                needOf[players] = need;
                players++;
            }
        }

        void addHand(int seat, int fond, int fondness, int kind) {
            if (hands < MOST_HANDS) {
                firstSeatOf[hands] = seat;
                fondOf[hands] = fond;
                fondnessOf[hands] = fondness;
                kindOf[hands] = kind;
                toldSeats |= 1 << seat;
                hands++;
            }
        }

        boolean hasPlayer(int player) {
            return player >= 0 && player < players;
        }

        boolean hasHand(int hand) {
            return hand >= 0 && hand < hands;
        }

        int everyHand() {
            return (1 << hands) - 1;
        }
    }

    /** How things stand with a cast at one time; "there" are the hands, as bits, that have not been sent away. */
    private static final class Moment {
        private final Cast cast;
        final int[] seatOf = new int[MOST_HANDS];
        final int[] vigourOf = new int[MOST_HANDS];
        final int[] calledOf = new int[MOST_PLAYERS];
        int dead;
        int nights;

        Moment(Cast cast) {
            this.cast = cast;
        }

        void begin() {
            System.arraycopy(cast.firstSeatOf, 0, seatOf, 0, MOST_HANDS);
            System.arraycopy(cast.fondnessOf, 0, vigourOf, 0, MOST_HANDS);
            for (int player = 0; player < MOST_PLAYERS; player++) {
                calledOf[player] = 0;
            }
            dead = 0;
            nights = 0;
        }

        void copyFrom(Moment other) {
            System.arraycopy(other.seatOf, 0, seatOf, 0, MOST_HANDS);
            System.arraycopy(other.vigourOf, 0, vigourOf, 0, MOST_HANDS);
            System.arraycopy(other.calledOf, 0, calledOf, 0, MOST_PLAYERS);
            dead = other.dead;
            nights = other.nights;
        }

        boolean isDead(int player) {
            return (dead >> player & 1) == 1;
        }

        int takenSeats() {
            return seatsOf(cast.everyHand());
        }

        boolean isTaken(int seat) {
            return (takenSeats() >> seat & 1) == 1;
        }

        int allVigour() {
            int all = 0;
            for (int hand = 0; hand < cast.hands; hand++) {
                all += vigourOf[hand];
            }
            return all;
        }

        int allCalled() {
            int all = 0;
            for (int player = 0; player < cast.players; player++) {
                all += calledOf[player];
            }
            return all;
        }

        int hushed(int there) {
            int hissers = there & ready(HISSER, 1);
            int hissedAt = handsAt(besides(seatsOf(hissers)));
            return there & hissedAt & ~ready(HISSER, 0);
        }

        int clapping(int player, int there) {
            int free = there & ~hushed(there) & fondOnes(player);
            int claps = free & ready(PLAIN, 3);
            int ushers = free & ready(USHER, 1);
            // Clapping runs at least one seat further in each round, so a round for each hand is enough.
            for (int round = 0; round < cast.hands; round++) {
                claps |= ushers & handsAt(besides(seatsOf(claps)));
            }
            return claps != 0 ? claps : free & ready(LONELY, 1);
        }

        int loud(int player, int there) {
            return Integer.bitCount(clapping(player, there));
        }

        boolean isEnough(int player, int there) {
            return loud(player, there) >= cast.needOf[player];
        }

        /** Calls a player; answers whether he comes, and a dead one never does. */
        boolean bringOut(int player) {
            if (isDead(player)) {
                return false;
            }
            int claps = clapping(player, cast.everyHand());
            if (Integer.bitCount(claps) < cast.needOf[player]) {
                dead |= 1 << player;
                return false;
            }
            calledOf[player]++;
            for (int hand = 0; hand < cast.hands; hand++) {
                vigourOf[hand] -= claps >> hand & 1;
            }
            return true;
        }

        void strew(int player, int flowers) {
            for (int hand = 0; hand < cast.hands; hand++) {
                if (cast.fondOf[hand] == player) {
                    vigourOf[hand] = Math.min(MOST_VIGOUR, vigourOf[hand] + flowers);
                }
            }
        }

        void sleep() {
            for (int hand = 0; hand < cast.hands; hand++) {
                if (vigourOf[hand] < cast.fondnessOf[hand]) {
                    vigourOf[hand]++;
                }
            }
            nights++;
        }

        private int fondOnes(int player) {
            int hands = 0;
            for (int hand = 0; hand < cast.hands; hand++) {
                if (cast.fondOf[hand] == player) {
                    hands |= 1 << hand;
                }
            }
            return hands;
        }

        private int ready(int kind, int leastVigour) {
            int hands = 0;
            for (int hand = 0; hand < cast.hands; hand++) {
                if (cast.kindOf[hand] == kind && vigourOf[hand] >= leastVigour) {
                    hands |= 1 << hand;
                }
            }
            return hands;
        }

        private int seatsOf(int hands) {
            int seats = 0;
            for (int hand = 0; hand < cast.hands; hand++) {
                seats |= (hands >> hand & 1) << seatOf[hand];
            }
            return seats;
        }

        private int handsAt(int seats) {
            int hands = 0;
            for (int hand = 0; hand < cast.hands; hand++) {
                hands |= (seats >> seatOf[hand] & 1) << hand;
            }
            return hands;
        }

        private static int besides(int seats) {
            return seats << 1 | seats >> 1;
        }
    }

    /** The moments ahead of the last acts, in a ring so that the oldest makes way. */
    private static final class Acts {
        private final Moment[] before = new Moment[MOST_ACTS];
        private int first;
        int count;

        Acts(Cast cast) {
            for (int act = 0; act < MOST_ACTS; act++) {
                before[act] = new Moment(cast);
            }
        }

        void note(Moment now) {
            before[(first + count) % MOST_ACTS].copyFrom(now);
            if (count < MOST_ACTS) {
                count++;
            } else {
                first = (first + 1) % MOST_ACTS;
            }
        }

        void takeBack(Moment now) {
            if (count > 0) {
                count--;
                now.copyFrom(before[(first + count) % MOST_ACTS]);
            }
        }

        void forget() {
            first = 0;
            count = 0;
        }
    }

    /** What would come of a moment, tried on copies of it. */
    private static final class Outlook {
        private final Cast cast;
        private final Moment trial;
        private final Moment later;

        Outlook(Cast cast) {
            this.cast = cast;
            trial = new Moment(cast);
            later = new Moment(cast);
        }

        int comings(Moment from, int player) {
            later.copyFrom(from);
            int times = 0;
            while (times < MOST_YET && later.bringOut(player)) {
                times++;
            }
            return times;
        }

        int bestSeat(Moment now, int hand, boolean howOften) {
            int bestSeat = NONE;
            int most = -1;
            for (int seat = 0; seat < SEATS; seat++) {
                if (seat == now.seatOf[hand] || !now.isTaken(seat)) {
                    trial.copyFrom(now);
                    trial.seatOf[hand] = seat;
                    int times = comings(trial, cast.fondOf[hand]);
                    if (times > most) {
                        most = times;
                        bestSeat = seat;
                    }
                }
            }
            return howOften ? most : bestSeat;
        }

        int fewestFlowers(Moment now, int player, int times) {
            for (int flowers = 0; flowers <= MOST_FLOWERS; flowers++) {
                trial.copyFrom(now);
                trial.strew(player, flowers);
                if (comings(trial, player) >= times) {
                    return flowers;
                }
            }
            return NONE;
        }

        int fewestSentHome(Moment now, int player) {
            int everyHand = cast.everyHand();
            int fewest = everyHand;
            for (int home = 0; home <= everyHand; home++) {
                boolean fewer = Integer.bitCount(home) < Integer.bitCount(fewest);
                if (fewer && !now.isEnough(player, everyHand & ~home)) {
                    fewest = home;
                }
            }
            return fewest;
        }

        int firstNotSo(Moment now, int doings, long highestUnit, long row) {
            trial.copyFrom(now);
            long unit = highestUnit;
            for (int place = 0; place < doings && unit > 0; place++) {
                int doing = (int) (row / unit % 1000);
                if (!isSo(doing / 100, doing / 10 % 10, doing % 10)) {
                    return place;
                }
                unit /= 1000;
            }
            return NONE;
        }

        private boolean isSo(int verb, int middle, int last) {
            switch (verb) {
                case 1:
                    return middle == 0 && cast.hasPlayer(last) && trial.bringOut(last);
                case 2:
                    return middle == 0 && cast.hasPlayer(last) && strewn(last);
                case 3:
                    return cast.hasHand(middle) && isSeat(last) && seated(middle, last);
                case 4:
                    return middle == 0 && last == 0 && slept();
                case 5:
                    return middle == 0 && cast.hasPlayer(last) && !trial.isDead(last);
                case 6:
                    return cast.hasPlayer(middle) && trial.loud(middle, cast.everyHand()) >= last;
                default:
                    return false;
            }
        }

        private boolean strewn(int player) {
            trial.strew(player, 1);
            return true;
        }

        private boolean seated(int hand, int seat) {
            if (trial.isTaken(seat)) {
                return false;
            }
            trial.seatOf[hand] = seat;
            return true;
        }

        private boolean slept() {
            trial.sleep();
            return true;
        }
    }

    /** Shares, rests and chances over who is there, and seasons by the seed. */
    private static final class Chances {
        private final Cast cast;
        private final Moment trial;
        long grain;

        Chances(Cast cast) {
            this.cast = cast;
            trial = new Moment(cast);
        }

        int meanLouder(Moment now, int hand, int player, boolean upper) {
            long louder = 0;
            int everyHand = cast.everyHand();
            for (int there = 0; there <= everyHand; there++) {
                if ((there >> hand & 1) == 0) {
                    int ahead = Integer.bitCount(there);
                    long orders = orders(ahead) * orders(cast.hands - 1 - ahead);
                    louder += orders * (now.loud(player, there | 1 << hand) - now.loud(player, there));
                }
            }
            return fraction(louder, orders(cast.hands), upper);
        }

        int countRests(Moment now, int one, int other) {
            int count = 0;
            for (int pair = 0; pair < 4; pair++) {
                if (isRest(now, one, other, pair)) {
                    count++;
                }
            }
            return count;
        }

        int firstRest(Moment now, int one, int other) {
            for (int pair = 0; pair < 4; pair++) {
                if (isRest(now, one, other, pair)) {
                    return 10 * (pair >> 1) + (pair & 1);
                }
            }
            return NONE;
        }

        /** A pair's bits are the one and the other, as they are there; neither may gain by turning its own bit. */
        private boolean isRest(Moment now, int one, int other, int pair) {
            int others = cast.everyHand() & ~(1 << one | 1 << other);
            int there = others | pair >> 1 << one | (pair & 1) << other;
            return gain(now, one, there) >= gain(now, one, there ^ 1 << one)
                && gain(now, other, there) >= gain(now, other, there ^ 1 << other);
        }

        private int gain(Moment now, int hand, int there) {
            int player = cast.fondOf[hand];
            int claps = now.clapping(player, there);
            int pay = Integer.bitCount(claps) >= cast.needOf[player] ? 3 : 0;
            return pay - (claps >> hand & 1);
        }

        int enoughStay(Moment now, int player, int x, boolean upper) {
            long enough = 0;
            int everyHand = cast.everyHand();
            for (int there = 0; there <= everyHand; there++) {
                if (now.isEnough(player, there)) {
                    int stay = Integer.bitCount(there);
                    enough += power(TENTHS - x, stay) * power(x, cast.hands - stay);
                }
            }
            return fraction(enough, power(TENTHS, cast.hands), upper);
        }

        int playSeasons(Moment now, int times) {
            trial.copyFrom(now);
            int sum = 0;
            for (int time = 0; time < times; time++) {
                grain = grain * SEED_FACTOR + SEED_ADDEND;
                happen((int) ((grain >>> 33) % 24));
                sum += trial.allCalled();
            }
            return sum;
        }

        private void happen(int lot) {
            if (lot < 6) {
                if (cast.hasPlayer(lot % 3)) {
                    trial.bringOut(lot % 3);
                }
            } else if (lot < 9) {
                trial.strew(lot - 6, 1);
            } else if (lot < 19) {
                if (cast.hasHand(0) && !trial.isTaken(lot - 9)) {
                    trial.seatOf[0] = lot - 9;
                }
            } else {
                trial.sleep();
            }
        }

        private static long orders(int things) {
            long orders = 1;
            for (int thing = 2; thing <= things; thing++) {
                orders *= thing;
            }
            return orders;
        }

        private static long power(long base, int times) {
            long power = 1;
            for (int time = 0; time < times; time++) {
                power *= base;
            }
            return power;
        }

        private static int fraction(long above, long below, boolean upper) {
            long common = Math.abs(above);
            long rest = below;
            // Euclid's rows shorten by half in two steps, so 128 are enough for any two longs.
            for (int step = 0; step < 128 && rest != 0; step++) {
                long left = common % rest;
                common = rest;
                rest = left;
            }
            if (common == 0) {
                return 0;
            }
            return (int) ((upper ? above : below) / common);
        }
    }

    /** What was heard of an unknown hand. */
    private static final class Heard {
        private final int[] callOf = new int[MOST_HEARD];
        private final int[] othersOf = new int[MOST_HEARD];
        private final int[] clappedOf = new int[MOST_HEARD];
        int count;

        int note(int t, int o, int clapped) {
            if (count >= MOST_HEARD) {
                return FULL;
            }
            callOf[count] = t;
            othersOf[count] = o;
            clappedOf[count] = clapped;
            count++;
            return count;
        }

        int forget() {
            int was = count;
            count = 0;
            return was;
        }

        int countFitting() {
            int fitting = 0;
            for (int kind = PLAIN; kind <= HISSER; kind++) {
                for (int fondness = 1; fondness <= MOST_VIGOUR; fondness++) {
                    if (fitsAll(kind, fondness)) {
                        fitting++;
                    }
                }
            }
            return fitting;
        }

        int firstFitting() {
            for (int kind = PLAIN; kind <= HISSER; kind++) {
                for (int fondness = 1; fondness <= MOST_VIGOUR; fondness++) {
                    if (fitsAll(kind, fondness)) {
                        return 10 * kind + fondness;
                    }
                }
            }
            return NONE;
        }

        private boolean fitsAll(int kind, int fondness) {
            for (int each = 0; each < count; each++) {
                boolean claps = clapsAt(kind, fondness - callOf[each], othersOf[each] == 1);
                if (claps != (clappedOf[each] == 1)) {
                    return false;
                }
            }
            return true;
        }

        /** The vigour is what is left if it clapped in every call ahead; who stopped sooner has too little then, too. */
        private static boolean clapsAt(int kind, int vigour, boolean othersClap) {
            if (kind == PLAIN) {
                return vigour >= 3;
            }
            // With nobody beside it an usher has no one to join.
            return kind == LONELY && !othersClap && vigour >= 1;
        }
    }

    /** Moments kept to go on from. */
    private static final class Slots {
        final Moment[] moments = new Moment[SLOTS];
        final boolean[] full = new boolean[SLOTS];

        Slots(Cast cast) {
            for (int slot = 0; slot < SLOTS; slot++) {
                moments[slot] = new Moment(cast);
            }
        }

        void put(int slot, Moment now) {
            moments[slot].copyFrom(now);
            full[slot] = true;
        }

        void forget() {
            for (int slot = 0; slot < SLOTS; slot++) {
                full[slot] = false;
            }
        }
    }
}
