/** Counts answers that are not as due, and prints them. */
final class Check {
    private int right = 0;
    private int wrong = 0;

    void due(String call, long got, long want) {
        if (got == want) {
            right++;
            return;
        }
        wrong++;
        if (wrong <= 50) {
            System.out.println(call + " answered " + got + ", due is " + want);
        }
    }

    void due(String call, boolean got, boolean want) {
        due(call, got ? 1 : 0, want ? 1 : 0);
    }

    void holds(String what, boolean true1) {
        due(what, true1, true);
    }

    int wrongSoFar() {
        return wrong;
    }

    /** Ends the program with exit code 1 if one answer was wrong. */
    void close() {
        System.out.println(right + " answers as due, " + wrong + " not");
        if (wrong != 0 || right == 0) {
            System.exit(1);
        }
    }

    /** Feeds a text to the tape, filled up with blanks to whole calls of feed(). */
    static void feed(TurnedBonds x, String text) {
        int[] ints = new int[5];
        for (int begin = 0; begin < text.length(); begin += 20) {
            for (int i = 0; i < 5; i++) {
                ints[i] = 0;
                for (int j = 0; j < 4; j++) {
                    int at = begin + 4 * i + j;
                    ints[i] = ints[i] << 8 | (at < text.length() ? text.charAt(at) : ' ');
                }
            }
            x.feed(ints[0], ints[1], ints[2], ints[3], ints[4]);
        }
    }
}
