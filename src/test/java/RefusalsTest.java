import java.util.Arrays;

/**
 * "REFUSALS change nothing", and no call throws but output: by many runs of calls with wild arguments.
 *
 * Much of a body cannot be looked at (a WISH, what is LEARNED, how often the volts were low), so each refused call
 * is made on one of two twins, which then have to answer alike for a long run of calls.
 */
public final class RefusalsTest {
    private static final int STATES = 150;
    private static final int CALLS_BEFORE = 120;
    private static final int CALLS_BEHIND = 200;
    private static final int WILD_RUNS = 4000;
    private static final int SHAPES = 15;
    private static final int STEP = 2;
    private static final int SHED = 5;
    private static final int LOAD = 6;
    private static final int CRASH = 12;
    private static final int MEMORY = 13;
    /** Below what each shape's first argument stays in the twins' runs. */
    private static final int[] NUMBERS = {9, 10, 60, 4, 4, 0, 10, 13, 6, 10, 4, 2, 1, 4, 10};
    private static final int[] VOLTS = {0, 11499, 11499, 11499, 12000, 12501, 12501, 12501};
    private static final int GOOD_RANK = 5;
    /** Shape, and up to three arguments, of calls that are refused in every state. */
    private static final int[][] REFUSED = {
        {0, -1, 0}, {0, 9, 0}, {0, 9, 1}, {0, 0, -1}, {0, 0, 4}, {0, 1, -1}, {0, 1, 1001}, {0, 2, -1}, {0, 2, 3},
        {0, 3, -1}, {0, 3, 2}, {0, 4, -1}, {0, 4, 4}, {0, 5, -1}, {0, 5, 2}, {0, 6, -1}, {0, 6, 2}, {0, 7, -1},
        {0, 7, 2}, {0, 8, -1}, {0, 8, 2}, {2, -1}, {2, 1001}, {3, -1, 500}, {3, 4, 500}, {3, 0, -1}, {3, 1, 1001},
        {3, 2, 1001}, {3, 3, 1001}, {4, -1}, {4, 4}, {5, -1}, {5, 20001}, {6, -1, 0}, {6, 10, 0}, {6, -1, 1},
        {6, 10, 1}, {7, 0}, {7, 13}, {8, -1, 0}, {8, 6, 0}, {8, -1, 1}, {8, 6, 1}, {9, -1}, {9, 10}, {10, -1, 100},
        {10, 4, 100}, {10, 0, -1}, {10, 1, 201}, {10, 2, -1}, {10, 3, 201}, {13, -1, 0, 0}, {13, 4, 4, 1},
        {13, 0, -1, 0}, {13, 1, 5, 1}, {13, 2, 0, -1}, {13, 3, 4, 2}, {14, -1}, {14, 10}
    };
    private static long seed;

    public static void main(String[] args) {
        refusalsChangeNothing();
        onlyWhatFitsFirst();
        nothingThrows();
        Check.end();
    }

    private static void refusalsChangeNothing() {
        Check.sentence("REFUSALS change nothing");
        for (int state = 0; state < STATES; state++) {
            for (int[] refused : REFUSED) {
                comparedWithATwin(state, refused);
            }
            comparedWithATwin(state, new int[] {CRASH});
            comparedWithATwin(state, new int[] {LOAD, GOOD_RANK, 0});
        }
    }

    private static void comparedWithATwin(int state, int[] refused) {
        BodyRows2 x = inState(state);
        BodyRows2 y = inState(state);
        if (refused[0] == CRASH) {
            x.crash();
            y.crash();
        }
        if (refused[0] == LOAD && refused[1] == GOOD_RANK) {
            fill(x);
            fill(y);
        }
        int answer = call(x, refused[0], argument(refused, 1), argument(refused, 2), argument(refused, 3));
        String told = "call " + refused[0] + " (" + argument(refused, 1) + ", " + argument(refused, 2) + ", "
            + argument(refused, 3) + ") answered " + answer;
        Check.holds(told + ", a refusal", answer >= -4 && answer <= -1);
        long before = seed;
        int[] answers = run(x, CALLS_BEHIND);
        seed = before;
        int[] twins = run(y, CALLS_BEHIND);
        Check.holds(told + ", and nothing is changed", Arrays.equals(answers, twins));
    }

    private static int argument(int[] refused, int n) {
        return n < refused.length ? refused[n] : 0;
    }

    private static BodyRows2 inState(int state) {
        BodyRows2 x = new BodyRows2();
        seed = state;
        run(x, CALLS_BEFORE);
        return x;
    }

    private static void fill(BodyRows2 x) {
        for (int n = 0; n < 12; n++) {
            x.load(n % 10, false);
        }
    }

    private static int[] run(BodyRows2 x, int calls) {
        int[] answers = new int[calls];
        for (int n = 0; n < calls; n++) {
            int shape = shape();
            answers[n] = call(x, shape, first(shape), second(shape), next(2));
        }
        return answers;
    }

    /** A crash is made rare: most runs should go on without one. */
    private static int shape() {
        int shape = next(SHAPES);
        return shape == CRASH && next(40) != 0 ? STEP : shape;
    }

    private static int first(int shape) {
        return shape == SHED ? VOLTS[next(VOLTS.length)] : next(NUMBERS[shape]);
    }

    /** Small values for switches, great ones for places, forces and brightness. */
    private static int second(int shape) {
        return shape == MEMORY || next(2) == 0 ? next(5) : Check.WILD[next(Check.WILD.length)];
    }

    private static void onlyWhatFitsFirst() {
        Check.sentence("the first that fits: -1 an unknown number, -2 outside a range, -3 not in this state, -4 no room");
        BodyRows2 x = new BodyRows2();
        fill(x);
        x.crash();
        Check.due("no KIND, no v", x.input(9, -1), -1);
        Check.due("no window, no force", x.pinch(4, 1001), -1);
        Check.due("no window, no WISH", x.window(-1, 201), -1);
        Check.due("no KEY, no what, no v", x.memory(4, 5, 2), -1);
        Check.due("no RANK, no room", x.load(10, false), -2);
        Check.due("no room", x.load(9, false), -4);
        Check.due("not in this state", x.crash(), -3);
    }

    private static void nothingThrows() {
        Check.sentence("No call may ever throw by itself (LANGUAGE.md, 7)");
        seed = 20261116;
        for (int run = 0; run < WILD_RUNS; run++) {
            BodyRows2 x = new BodyRows2();
            for (int n = 0; n < 480; n++) {
                call(x, shape(), wild(), wild(), wild());
            }
            checkRanges(x);
        }
    }

    private static int wild() {
        return next(2) == 0 ? next(5) : Check.WILD[next(Check.WILD.length)];
    }

    private static int call(BodyRows2 x, int shape, int a, int b, int c) {
        switch (shape) {
            case 0:
                return x.input(a, b);
            case 1:
                return x.output((a & 0xff) % 10);
            case STEP:
                return x.step(a);
            case 3:
                return x.pinch(a, b);
            case 4:
                return x.learn(a);
            case SHED:
                return x.shed(a);
            case LOAD:
                return x.load(a, b == 1);
            case 7:
                return x.isOn(a);
            case 8:
                return x.bulb(a, b == 1);
            case 9:
                return x.rain(a);
            case 10:
                return x.window(a, b);
            case 11:
                return x.trailer(a == 1);
            case CRASH:
                return x.crash();
            case MEMORY:
                return x.memory(a, b, c);
            default:
                return x.state(a);
        }
    }

    private static void checkRanges(BodyRows2 x) {
        int[] outputs = {1, 1, 1, 1, 1, 2, 1, 100, 1, 1};
        int[] states = {200, 200, 200, 200, 99, 320, 12800, 12800, 1, 512000};
        for (int i = 0; i < 10; i++) {
            int output = x.output(i);
            int state = x.state(i);
            Check.holds("output(" + i + ") is in its range", output >= 0 && output <= outputs[i]);
            Check.holds("state(" + i + ") is in its range", state >= 0 && state <= states[i]);
        }
    }

    /** A generator of its own, so that every run of the test is the same. */
    private static int next(int bound) {
        seed = seed * 6364136223846793005L + 1442695040888963407L;
        return (int) ((seed >>> 33) % bound);
    }
}
