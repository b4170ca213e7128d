/** Promises 1 to 8: the text, its fault, the house, and what is told of it. */
public final class HouseTest {
    private static final Check check = new Check();

    public static void main(String[] args) {
        newObject();
        write();
        wipe();
        fault();
        house();
        houseKeepsWhatStays();
        about();
        player();
        hand();
        hushed();
        ushers();
        lonely();
        full();
        check.end("HouseTest");
    }

    private static void newObject() {
        LastBows x = new LastBows();
        for (int what = 0; what <= 9; what++) {
            check.due("new about(" + what + ")", x.about(what), 0);
        }
        check.due("new player", x.player(0, 0), LastBows.UNKNOWN);
        check.due("new hand", x.hand(0, 0), LastBows.UNKNOWN);
        check.due("new seed", x.seed(0), 0);
        check.due("new again", x.again(0), LastBows.LATE);
        check.due("new whose", x.whose(0), 36);
    }

    private static void write() {
        LastBows x = new LastBows();
        check.due("write(-1)", x.write(-1), LastBows.BAD);
        check.due("write(256)", x.write(256), LastBows.BAD);
        check.due("nothing written", x.about(9), 0);
        for (int i = 1; i <= 48; i++) {
            check.due("write " + i, x.write(i % 2 == 0 ? 0 : 255), i);
        }
        check.due("write 49", x.write('H'), LastBows.FULL);
        check.due("write bad when full", x.write(256), LastBows.BAD);
        check.due("write least when full", x.write(Integer.MIN_VALUE), LastBows.BAD);
        check.due("length when full", x.about(9), 48);
    }

    private static void wipe() {
        LastBows x = new LastBows();
        check.due("wipe empty", x.wipe(), 0);
        Check.tell(x, "HP1");
        check.due("wipe three", x.wipe(), 3);
        check.due("wiped length", x.about(9), 0);
        check.due("write behind wipe", x.write('H'), 1);
        check.due("fault of H", x.fault(), LastBows.NONE);
    }

    private static void fault() {
        faultOf("", 0);
        faultOf("h", 0);
        faultOf("PH", 0);
        faultOf("H", LastBows.NONE);
        faultOf("HH", 1);
        faultOf("HP", 2);
        faultOf("HP0", 2);
        faultOf("HP8", 2);
        faultOf("HPP", 2);
        faultOf("HP7", LastBows.NONE);
        faultOf("HP1P2P3", LastBows.NONE);
        faultOf("HP1P2P3P", 7);
        faultOf("HD0010", 1);
        faultOf("HP1D", 4);
        faultOf("HP1D9", 5);
        faultOf("HP1D90", 6);
        faultOf("HP1D909", 7);
        faultOf("HP1D9093", LastBows.NONE);
        faultOf("HP1D:", 4);
        faultOf("HP1D/", 4);
        faultOf("HP1D01", 5);
        faultOf("HP1P1D01", 8);
        faultOf("HP1D0/", 5);
        faultOf("HP1D000", 6);
        faultOf("HP1D00:", 6);
        faultOf("HP1D0014", 7);
        faultOf("HP1D001/", 7);
        faultOf("HP1D0010D0", 9);
        faultOf("HP1D0010D1", 10);
        faultOf("HP1D0010P2D1121", LastBows.NONE);
        faultOf("HP1D0110P2", 5);
        String seven = "HP1D0010D1010D2010D3010D4010D5010D6010";
        faultOf(seven, LastBows.NONE);
        faultOf(seven + "D", 38);
        faultOf(seven + "P1P1", LastBows.NONE);
        faultOf(seven + "P1P1P1", 42);
        faultOf("HP1 D0010", 3);
    }

    private static void faultOf(String text, int want) {
        LastBows x = new LastBows();
        Check.tell(x, text);
        check.due("fault of " + text, x.fault(), want);
        check.due("fault again of " + text, x.fault(), want);
        int things = x.house();
        check.holds("house of " + text, (things == LastBows.LATE) == (want != LastBows.NONE));
    }

    private static void house() {
        LastBows x = new LastBows();
        Check.tell(x, "H");
        check.due("house of H", x.house(), 0);
        Check.tell(x, "HP1P2D0010D1121");
        check.due("fault makes no house", x.fault(), LastBows.NONE);
        check.due("players ahead of house", x.about(0), 0);
        check.due("house", x.house(), 22);
        check.due("text stays", x.about(9), 15);
        Check.tell(x, "HP1P");
        check.due("house with a fault", x.house(), LastBows.LATE);
        check.due("players stay", x.about(0), 2);
        check.due("hands stay", x.about(1), 2);
        check.due("need stays", x.player(1, 0), 2);
        Check.tell(x, "HP3");
        check.due("a smaller house", x.house(), 10);
        check.due("no hands left", x.hand(0, 0), LastBows.UNKNOWN);
        check.due("no player 1 left", x.player(1, 0), LastBows.UNKNOWN);
    }

    private static void houseKeepsWhatStays() {
        LastBows x = Check.house("HP1D0090");
        x.hear(1, 1, 1);
        x.seed(77);
        x.night();
        x.call(0);
        x.keep(0);
        x.keep(1);
        check.due("house anew", x.house(), 11);
        check.due("night anew", x.about(2), 0);
        check.due("called anew", x.player(0, 1), 0);
        check.due("vigour anew", x.hand(0, 4), 9);
        check.due("no acts", x.about(7), 0);
        check.due("undo none", x.undo(), LastBows.LATE);
        check.due("slot 0 gone", x.again(0), LastBows.LATE);
        check.due("slot 1 gone", x.again(1), LastBows.LATE);
        check.due("heard stays", x.about(8), 1);
        check.due("seed stays", x.seed(1), 77);
        Check.tell(x, "HP7D0010");
        x.house();
        x.call(0);
        check.due("dead", x.about(3), 1);
        x.seat(0, 5);
        x.house();
        check.due("nobody is dead anew", x.about(3), 0);
        check.due("first seat anew", x.hand(0, 0), 0);
    }

    private static void about() {
        LastBows x = Check.house("HP1P7P1D0090D1013D9271");
        x.night();
        x.night();
        x.call(1);
        x.call(2);
        x.seat(2, 8);
        x.hear(0, 0, 0);
        check.due("about(-1)", x.about(-1), LastBows.BAD);
        check.due("about(10)", x.about(10), LastBows.BAD);
        check.due("PLAYERS", x.about(0), 3);
        check.due("HANDS", x.about(1), 3);
        check.due("THE NIGHT", x.about(2), 2);
        check.due("DEAD", x.about(3), 6);
        check.due("taken", x.about(4), 1 | 2 | 256);
        check.due("VIGOUR", x.about(5), 17);
        check.due("HUSHED", x.about(6), 1);
        check.due("ACTS", x.about(7), 5);
        check.due("HEARD", x.about(8), 1);
        check.due("bytes", x.about(9), 22);
    }

    private static void player() {
        LastBows x = Check.house("HP2P7D3030D4011D6120");
        check.due("need", x.player(0, 0), 2);
        check.due("need of 1", x.player(1, 0), 7);
        check.due("called", x.player(0, 1), 0);
        check.due("claps", x.player(0, 2), 3);
        check.due("loud", x.player(0, 3), 2);
        check.due("alive", x.player(0, 4), 0);
        x.call(0);
        x.call(1);
        check.due("called once", x.player(0, 1), 1);
        check.due("dead one not called", x.player(1, 1), 0);
        check.due("dead one", x.player(1, 4), 1);
        check.due("weary: nobody claps", x.player(0, 2), 0);
        check.due("plain of 2 does not clap", x.player(1, 3), 0);
        check.due("player(2, 0)", x.player(2, 0), LastBows.UNKNOWN);
        check.due("player(-1, 9)", x.player(-1, 9), LastBows.UNKNOWN);
        check.due("player(0, 5)", x.player(0, 5), LastBows.BAD);
        check.due("player(0, -1)", x.player(0, -1), LastBows.BAD);
    }

    private static void hand() {
        LastBows x = Check.house("HP1P1D7152D8043");
        check.due("seat", x.hand(0, 0), 7);
        check.due("fond", x.hand(0, 1), 1);
        check.due("fondness", x.hand(0, 2), 5);
        check.due("kind", x.hand(0, 3), 2);
        check.due("vigour", x.hand(0, 4), 5);
        check.due("hushed", x.hand(0, 5), 1);
        check.due("hisser not hushed", x.hand(1, 5), 0);
        x.flowers(1);
        check.due("vigour more", x.hand(0, 4), 6);
        check.due("fondness stays", x.hand(0, 2), 5);
        check.due("hand(2, 0)", x.hand(2, 0), LastBows.UNKNOWN);
        check.due("hand(-1, 0)", x.hand(-1, 0), LastBows.UNKNOWN);
        check.due("hand(2, 7)", x.hand(2, 7), LastBows.UNKNOWN);
        check.due("hand(0, 6)", x.hand(0, 6), LastBows.BAD);
        check.due("hand(0, -1)", x.hand(0, -1), LastBows.BAD);
    }

    private static void hushed() {
        LastBows ends = Check.house("HP1D0010D9010D1013D8013");
        check.due("hushed at both ends", ends.about(6), 3);
        LastBows round = Check.house("HP1D0090D9013");
        check.due("9 is not beside 0", round.about(6), 0);
        LastBows hissers = Check.house("HP1D4013D5013D6090");
        check.due("hissers beside one another", hissers.about(6), 4);
        check.due("nobody claps", hissers.player(0, 2), 0);
        LastBows foreign = Check.house("HP1P1D4090D5113");
        check.due("a hisser fond of another", foreign.player(0, 2), 0);
        LastBows wall = Check.house("HP1D0090D1091D2091D3013");
        check.due("a hushed usher does not clap", wall.player(0, 2), 3);
        LastBows two = Check.house("HP1D0090D2013");
        check.due("two seats off", two.player(0, 2), 1);
    }

    private static void ushers() {
        LastBows chain = Check.house("HP1D5011D4011D3011D2030D7011D6010");
        check.due("a chain told backwards", chain.player(0, 2), 15);
        LastBows alone = Check.house("HP1D0091D1091");
        check.due("ushers need a plain one", alone.player(0, 2), 0);
        LastBows foreign = Check.house("HP1P1D0190D1091");
        check.due("a plain one for another", foreign.player(0, 2), 0);
        LastBows weak = Check.house("HP1D0020D1091");
        check.due("a plain one of 2", weak.player(0, 2), 0);
        LastBows gap = Check.house("HP1D0090D1091D3091");
        check.due("a gap", gap.player(0, 2), 3);
        LastBows tired = Check.house("HP1D0090D1011D2091");
        tired.call(0);
        check.due("a tired usher passes nothing on", tired.player(0, 2), 1);
    }

    private static void lonely() {
        LastBows two = Check.house("HP1D0012D1012");
        check.due("two lonely ones", two.player(0, 2), 3);
        LastBows beside = Check.house("HP1D0012D1091");
        check.due("an usher beside a lonely one", beside.player(0, 2), 1);
        LastBows plain = Check.house("HP1D0092D9030");
        check.due("a plain one far off", plain.player(0, 2), 2);
        plain.call(0);
        check.due("none when it is tired", plain.player(0, 2), 1);
        LastBows foreign = Check.house("HP1P1D0012D9190");
        check.due("a plain one for another", foreign.player(0, 2), 1);
        LastBows hushed = Check.house("HP1D0012D1013");
        check.due("a hushed lonely one", hushed.player(0, 2), 0);
        LastBows hushedPlain = Check.house("HP1D0090D1013D9012");
        check.due("lonely while a plain one is hushed", hushedPlain.player(0, 2), 4);
        LastBows spent = Check.house("HP1D0012");
        spent.call(0);
        check.due("a spent lonely one", spent.player(0, 2), 0);
    }

    private static void full() {
        LastBows x = Check.house("HP1P2P3D0030D1011D3190D4013D5090D8212D9290");
        check.due("things", 10 * x.about(0) + x.about(1), 37);
        check.due("taken", x.about(4), 1 + 2 + 8 + 16 + 32 + 256 + 512);
        check.due("vigour", x.about(5), 33);
        check.due("hushed", x.about(6), 4 + 16);
        check.due("claps for 0", x.player(0, 2), 1 + 2);
        check.due("claps for 1", x.player(1, 2), 0);
        check.due("claps for 2", x.player(2, 2), 64);
        for (int hand = 0; hand < 7; hand++) {
            check.due("hushed " + hand, x.hand(hand, 5), hand == 2 || hand == 4 ? 1 : 0);
        }
        check.due("call", x.call(0), 2);
        check.due("flowers", x.flowers(2), 1);
        check.due("night", x.night(), 34);
    }
}
