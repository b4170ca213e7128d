/** What the tests share: a count of answers, and houses told in one go. */
final class Check {
    private int right = 0;
    private int wrong = 0;

    void due(String call, long got, long want) {
        if (got == want) {
            right++;
        } else {
            wrong++;
            System.out.println(call + " answered " + got + ", due is " + want);
        }
    }

    void holds(String what, boolean holds) {
        due(what, holds ? 1 : 0, 1);
    }

    /** Ends with exit code 1 if an answer was wrong, as the tests under ../shared/tests do. */
    void end(String test) {
        System.out.println(test + ": " + right + " right, " + wrong + " wrong");
        if (wrong != 0) {
            System.exit(1);
        }
    }

    static void tell(LastBows bows, String text) {
        bows.wipe();
        for (int i = 0; i < text.length(); i++) {
            bows.write(text.charAt(i));
        }
    }

    static LastBows house(String text) {
        LastBows bows = new LastBows();
        tell(bows, text);
        bows.house();
        return bows;
    }
}
