import java.util.LinkedHashMap;
import java.util.List;
import java.util.Map;

/**
 * That each call changes what the document says it does, and nothing besides. Each part of a house that has lived is
 * looked at by itself, on a house of its own, so that no look can hide what another one would have shown.
 */
public final class OnlyThatTest {
    private static final Check check = new Check();
    private static final String LIVED = "HP1P7P2D0050D2191D4013D9292";

    private interface Look {
        long at(LastBows bows);
    }

    private record Due(Look look, long answer) {
    }

    private static final Map<String, Due> PARTS = parts();

    /** What Twins.lived() has come to, by the document. */
    private static Map<String, Due> parts() {
        Map<String, Due> parts = new LinkedHashMap<>();
        parts.put("players", new Due(x -> x.about(0), 3));
        parts.put("hands", new Due(x -> x.about(1), 4));
        parts.put("the night", new Due(x -> x.about(2), 1));
        parts.put("the dead", new Due(x -> x.about(3), 2));
        parts.put("seats", new Due(x -> x.about(4), 1 << 6 | 1 << 2 | 1 << 4 | 1 << 9));
        parts.put("vigour", new Due(x -> x.about(5), 4 + 9 + 1 + 9));
        parts.put("called", new Due(x -> x.player(0, 1), 1));
        parts.put("needs", new Due(x -> x.player(1, 0), 7));
        parts.put("acts", new Due(x -> x.about(7), 5));
        parts.put("the last act", new Due(x -> x.undo(), 4));
        parts.put("heard", new Due(x -> x.about(8), 2));
        // Plain of 3, 4 or 5; lonely of 1 to 9.
        parts.put("whose", new Due(x -> x.whose(0), 3 + 9));
        parts.put("the first whose", new Due(x -> x.whose(1), 3));
        parts.put("the text", new Due(x -> x.about(9), LIVED.length() + 2));
        parts.put("the fault", new Due(x -> x.fault(), LIVED.length()));
        parts.put("the seed", new Due(x -> x.seed(0), 77));
        for (int slot = 0; slot <= 1; slot++) {
            int from = slot;
            parts.put("slot " + slot + ", the night", new Due(x -> x.again(from), 1));
            parts.put("slot " + slot + ", seat", new Due(x -> x.again(from) + x.hand(0, 0), 1 + (slot == 0 ? 0 : 6)));
            parts.put("slot " + slot + ", the dead", new Due(x -> x.again(from) + x.about(3), 1 + (slot == 0 ? 0 : 2)));
            parts.put("slot " + slot + ", vigour", new Due(x -> x.again(from) + x.about(5), 1 + 23));
            parts.put("slot " + slot + ", called", new Due(x -> x.again(from) + x.player(0, 1), 1 + 1));
        }
        return parts;
    }

    public static void main(String[] args) throws IllegalAccessException {
        Boundaries.run(OnlyThatTest.class, check);
    }

    /** Each part is as it was but for those named. */
    private static void allBut(List<String> changed, Twins.Calls calls) {
        for (String name : changed) {
            check.holds(name + " is a part", PARTS.containsKey(name));
        }
        for (Map.Entry<String, Due> part : PARTS.entrySet()) {
            if (!changed.contains(part.getKey())) {
                LastBows bows = Twins.lived();
                calls.on(bows);
                check.due(part.getKey(), part.getValue().look().at(bows), part.getValue().answer());
            }
        }
    }

    private static void all(Twins.Calls calls) {
        allBut(List.of(), calls);
    }

    private static void tell(LastBows x, String text) {
        for (int i = 0; i < text.length(); i++) {
            x.write(text.charAt(i));
        }
    }

    // ---- the house

    @Says("An empty house.")
    static void promise01_anotherObjectIsAnotherHouse() {
        all(x -> {
            LastBows other = new LastBows();
            tell(other, "HP1");
            other.house();
            other.night();
            other.keep(0);
            other.hear(0, 0, 0);
            other.seed(5);
        });
    }

    @Says("A byte (0 .. 255) comes behind THE TEXT")
    static void promise02_writeChangesTheTextAlone() {
        allBut(List.of("the text"), x -> check.due("write", x.write('H'), LIVED.length() + 3));
    }

    @Says("THE TEXT is empty: how long it was.")
    static void promise03_wipeChangesTheTextAlone() {
        allBut(List.of("the text", "the fault"), x -> check.due("wipe", x.wipe(), LIVED.length() + 2));
        all(x -> {
            x.wipe();
            tell(x, LIVED + "P?");
        });
    }

    @Says("FAULT; NONE.")
    static void promise04_faultChangesNothing() {
        all(x -> check.due("fault", x.fault(), LIVED.length()));
        allBut(List.of("the text", "the fault"), x -> {
            x.wipe();
            tell(x, "HP3D0031");
            check.due("no fault, but no house yet", x.fault(), LastBows.NONE);
        });
    }

    @Says({"LATE: a FAULT.", "What is refused changes nothing."})
    static void promise05_aLateHouseChangesNothing() {
        all(x -> check.due("house", x.house(), LastBows.LATE));
    }

    @Says("(THE TEXT itself stays; no ACTS; what was kept is gone; HEARD, THE SEED stay)")
    static void promise05_heardAndTheSeedAndTheTextStay() {
        LastBows x = Twins.lived();
        x.wipe();
        tell(x, LIVED);
        check.due("house", x.house(), 34);
        check.due("the text", x.about(9), LIVED.length());
        check.due("heard", x.about(8), 2);
        check.due("whose", x.whose(0), 12);
        check.due("acts", x.about(7), 0);
        check.due("slot 0", x.again(0), LastBows.LATE);
        check.due("slot 1", x.again(1), LastBows.LATE);
        check.due("the seed", x.seed(0), 77);
    }

    @Says("bytes of THE TEXT (9). BAD.")
    static void promise06_aboutChangesNothing() {
        all(x -> {
            for (int what = -1; what <= 10; what++) {
                x.about(what);
            }
        });
    }

    @Says("1 if he is DEAD (4). UNKNOWN; BAD.")
    static void promise07_playerChangesNothing() {
        all(x -> {
            for (int what = -1; what <= 5; what++) {
                x.player(0, what);
                x.player(1, what);
                x.player(3, what);
            }
        });
    }

    @Says("1 if it is HUSHED (5). UNKNOWN; BAD.")
    static void promise08_handChangesNothing() {
        all(x -> {
            for (int what = -1; what <= 6; what++) {
                x.hand(0, what);
                x.hand(3, what);
                x.hand(4, what);
            }
        });
    }

    // ---- acts

    @Says({"CALLED: how LOUD it was.", "the last one can be undone."})
    static void promise09_aCallUndoneHasChangedNothing() {
        all(x -> {
            check.due("he comes", x.call(0), 1);
            check.due("undo", x.undo(), 5);
        });
        all(x -> {
            check.due("he dies", x.call(2), 1);
            check.due("undo", x.undo(), 5);
        });
        all(x -> check.due("dead", x.call(1), LastBows.LATE));
        allBut(List.of("acts", "the last act", "vigour", "called"), x -> x.call(0));
        allBut(List.of("acts", "the last act", "the dead"), x -> x.call(2));
    }

    @Says({"FLOWERS: how LOUD it is for him then.", "the last one can be undone."})
    static void promise10_flowersUndoneHaveChangedNothing() {
        all(x -> {
            check.due("flowers", x.flowers(0), 1);
            check.due("undo", x.undo(), 5);
        });
        all(x -> check.due("unknown", x.flowers(3), LastBows.UNKNOWN));
        allBut(List.of("acts", "the last act", "vigour"), x -> x.flowers(0));
    }

    @Says({"SEATED: the SEAT where it was.", "the last one can be undone."})
    static void promise11_aSeatUndoneHasChangedNothing() {
        all(x -> {
            check.due("seat", x.seat(0, 0), 6);
            check.due("undo", x.undo(), 5);
        });
        all(x -> check.due("late", x.seat(0, 2), LastBows.LATE));
        allBut(List.of("acts", "the last act", "seats"), x -> x.seat(0, 0));
    }

    @Says({"A NIGHT: VIGOUR of all HANDS.", "the last one can be undone."})
    static void promise12_aNightUndoneHasChangedNothing() {
        all(x -> {
            check.due("night", x.night(), 24);
            check.due("undo", x.undo(), 5);
        });
        allBut(List.of("acts", "the last act", "the night", "vigour"), x -> x.night());
    }

    @Says("The last ACT is undone: how many are left.")
    static void promise13_undoTakesTheLastActBackAlone() {
        // The last act was flowers for hands that have no more room for vigour.
        allBut(List.of("acts", "the last act"), x -> check.due("undo", x.undo(), 4));
        allBut(List.of("acts", "the last act", "the dead"), x -> {
            x.undo();
            check.due("the death", x.undo(), 3);
        });
    }

    // ---- calls to come

    @Says("In what follows nothing is changed.")
    static void promise14_yetChangesNothing() {
        all(x -> x.yet(0));
    }

    @Says("In what follows nothing is changed.")
    static void promise15_bestChangesNothing() {
        all(x -> {
            x.best(0, 0);
            x.best(3, 1);
        });
    }

    @Says("In what follows nothing is changed.")
    static void promise16_wantsChangesNothing() {
        all(x -> {
            x.wants(0, 2);
            x.wants(0, 9);
        });
    }

    @Says("In what follows nothing is changed.")
    static void promise17_stillChangesNothing() {
        all(x -> x.still(0));
    }

    @Says({"In what follows nothing is changed.", "what is ahead of it being done"})
    static void promise18_judgeChangesNothing() {
        all(x -> check.due("all so", x.judge(4, 100200300400L), LastBows.NONE));
        all(x -> check.due("the last not so", x.judge(4, 400200100101L), 3));
    }

    @Says("In what follows nothing is changed.")
    static void promise19_shareChangesNothing() {
        all(x -> {
            x.share(0, 0, true);
            x.share(2, 1, false);
        });
    }

    // ---- heard

    @Says("HEARD: how many there are.")
    static void promise20_hearChangesWhatIsHeardAlone() {
        allBut(List.of("heard", "whose", "the first whose"), x -> check.due("hear", x.hear(2, 0, 1), 3));
    }

    @Says("Nothing is HEARD: how much there was.")
    static void promise21_unhearChangesWhatIsHeardAlone() {
        allBut(List.of("heard", "whose", "the first whose"), x -> check.due("unhear", x.unhear(), 2));
        all(x -> {
            x.unhear();
            x.hear(0, 0, 1);
            x.hear(3, 1, 0);
        });
    }

    @Says("WHOSE: how many (what = 0), the first one (1); NONE. BAD.")
    static void promise22_whoseChangesNothing() {
        all(x -> {
            for (int what = -1; what <= 2; what++) {
                x.whose(what);
            }
        });
    }

    // ---- rests, chances

    @Says("RESTS: how many (what = 0), the first one (1); NONE.")
    static void promise23_restsChangesNothing() {
        all(x -> {
            x.rests(0, 2, 0);
            x.rests(0, 2, 1);
            x.rests(0, 1, 0);
        });
    }

    @Says("AWAY. UNKNOWN; BAD: x.")
    static void promise24_awayChangesNothing() {
        all(x -> {
            x.away(0, 5, true);
            x.away(1, 5, false);
            x.away(0, 11, true);
        });
    }

    @Says("THE SEED is v: what it was.")
    static void promise25_seedChangesTheSeedAlone() {
        allBut(List.of("the seed"), x -> check.due("seed", x.seed(8), 77));
        all(x -> check.due("the same seed", x.seed(77), 77));
    }

    @Says("(Nothing changes but THE SEED.)")
    static void promise26_seasonsChangeTheSeedAlone() {
        allBut(List.of("the seed"), x -> x.seasons(30));
        all(x -> check.due("bad", x.seasons(31), LastBows.BAD));
        LastBows x = Twins.lived();
        x.seasons(30);
        check.due("the seed", x.seed(0), Lots.behind(77, 30));
    }

    // ---- slots

    @Says("They are kept: THE NIGHT. UNKNOWN.")
    static void promise27_keepChangesTheSlotAlone() {
        allBut(List.of("slot 0, seat", "slot 0, the dead"), x -> check.due("keep", x.keep(0), 1));
        all(x -> check.due("unknown", x.keep(2), LastBows.UNKNOWN));
        all(x -> check.due("the same once more", x.keep(1), 1));
    }

    @Says({"They are as they were kept: THE NIGHT.", "(no ACTS when one goes on)"})
    static void promise28_againChangesWhatIsKeptAndTheActsAlone() {
        allBut(List.of("acts", "the last act", "seats", "the dead"), x -> check.due("again", x.again(0), 1));
        allBut(List.of("acts", "the last act"), x -> check.due("again", x.again(1), 1));
        all(x -> check.due("unknown", x.again(2), LastBows.UNKNOWN));
    }

    @Says("They are as they were kept: THE NIGHT.")
    static void promise28_aSlotIsNotUsedUpAndNotChangedByWhatComesThen() {
        LastBows x = Twins.lived();
        x.again(0);
        x.call(0);
        x.night();
        x.seat(0, 7);
        check.due("once more", x.again(0), 1);
        check.due("seat", x.hand(0, 0), 0);
        check.due("vigour", x.about(5), 23);
        check.due("called", x.player(0, 1), 1);
    }
}
