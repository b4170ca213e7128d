/** What the tests share: a count of answers, and houses told in one go. */
final class Check {
    /** Figures that no bound of the document reaches, and those that only look small once they have wrapped around. */
    static final int[] FAR = {Integer.MIN_VALUE, -64, -32, -10, -2, 64, 256, 1 << 16, Integer.MAX_VALUE};

    private int right = 0;
    private int wrong = 0;
    private int begunAt = 0;
    private String test = "";

    /** What is wrong from here on is told with the test's name. */
    void begin(String name) {
        test = name + ": ";
        begunAt = right + wrong;
    }

    int sinceBegin() {
        return right + wrong - begunAt;
    }

    void due(String call, long got, long want) {
        if (got == want) {
            right++;
        } else {
            wrong++;
            System.out.println(test + call + " answered " + got + ", due is " + want);
        }
    }

    void holds(String what, boolean holds) {
        due(what, holds ? 1 : 0, 1);
    }

    void same(String what, Object got, Object want) {
        holds(what + ": " + got + " is " + want, got.equals(want));
    }

    /** Ends with exit code 1 if an answer was wrong, as the tests under ../shared/tests do. */
    void end(String tests) {
        System.out.println(tests + ": " + right + " right, " + wrong + " wrong");
        if (wrong != 0) {
            System.exit(1);
        }
    }

    static void tell(LastBows bows, String text) {
        bows.wipe();
        for (int i = 0; i < text.length(); i++) {
            bows.write(text.charAt(i));
        }
    }

    static LastBows house(String text) {
        LastBows bows = new LastBows();
        tell(bows, text);
        bows.house();
        return bows;
    }
}
