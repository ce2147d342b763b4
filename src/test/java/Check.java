/** What the tests share: it prints every answer that is not due, and ends with exit code 1 if there was one. */
final class Check {
    static final int[] WILD = {
        Integer.MIN_VALUE, -1000, -60, -2, -1, 0, 1, 2, 3, 4, 5, 6, 7, 8, 9, 10, 11, 12, 13, 40, 99, 100, 101, 199, 200,
        201, 300, 400, 401, 999, 1000, 1001, 11499, 11500, 12500, 12501, 20000, 20001, Integer.MAX_VALUE
    };
    private static String sentence = "";
    private static int wrong = 0;

    private Check() {
    }

    /** The words of the document that the test from here on is for: they are printed with what is wrong. */
    static void sentence(String words) {
        sentence = words;
    }

    static void due(String call, long got, long want) {
        if (got != want) {
            tell(call + " answered " + got + ", due is " + want);
        }
    }

    static void holds(String what, boolean holds) {
        if (!holds) {
            tell("does not hold: " + what);
        }
    }

    /** All ten outputs at once, so that a test sees those too that should have stayed. */
    static void outputs(String when, BodyRows2 x, int... want) {
        for (int i = 0; i < 10; i++) {
            due(when + ": output(" + i + ")", x.output(i), i < want.length ? want[i] : 0);
        }
    }

    /** All ten states at once. */
    static void states(String when, BodyRows2 x, int... want) {
        for (int what = 0; what < 10; what++) {
            due(when + ": state(" + what + ")", x.state(what), what < want.length ? want[what] : 0);
        }
    }

    /** What lies outside of least .. greatest: next to it, and as far as an int goes. */
    static int[] outside(int least, int greatest) {
        return new int[] {least - 1, greatest + 1, least - 2, greatest + 2, Integer.MIN_VALUE, Integer.MAX_VALUE};
    }

    static void end() {
        if (wrong != 0) {
            System.out.println(wrong + " answers are not as due");
            System.exit(1);
        }
    }

    private static void tell(String text) {
        wrong++;
        System.out.println("\"" + sentence + "\": " + text);
    }
}
