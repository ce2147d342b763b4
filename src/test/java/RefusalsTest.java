import java.util.Arrays;

/** "REFUSALS change nothing", and no call throws but output: by many runs of calls with wild arguments. */
public final class RefusalsTest {
    private static final int RUNS = 10000;
    /** With the looks behind them these stay below the 512 calls for which an object is promised. */
    private static final int MOST_CALLS_UNSEEN = 400;
    private static final int SHAPES = 14;
    private static long seed = 20261115;

    public static void main(String[] args) {
        for (int run = 0; run < RUNS; run++) {
            BodyRows2 x = new BodyRows2();
            int unseen = next(MOST_CALLS_UNSEEN);
            for (int n = 0; n < unseen; n++) {
                call(x, next(SHAPES), argument(), argument(), argument());
            }
            checkCall(x);
            checkBounds(x);
        }
        Check.end();
    }

    private static void checkCall(BodyRows2 x) {
        int[] before = look(x);
        int shape = next(SHAPES);
        int a = argument();
        int b = argument();
        int c = argument();
        int answer = call(x, shape, a, b, c);
        String told = "call " + shape + " (" + a + ", " + b + ", " + c + ") answered " + answer;
        Check.holds(told + ", which is no refusal", answer >= -4);
        // memory may answer -1 for what it does not remember, which changes nothing either.
        Check.holds(told + " and changed something", answer >= 0 || Arrays.equals(before, look(x)));
    }

    private static int call(BodyRows2 x, int shape, int a, int b, int c) {
        switch (shape) {
            case 0:
            case 1:
                return x.input(a, b);
            case 2:
                return x.step(a);
            case 3:
                return x.pinch(a, b);
            case 4:
                return x.learn(a);
            case 5:
                return x.shed(a);
            case 6:
                return x.load(a, b > 5);
            case 7:
                return x.isOn(a);
            case 8:
                return x.bulb(a, b > 5);
            case 9:
                return x.rain(a);
            case 10:
                return x.window(a, b);
            case 11:
                return next(40) == 0 ? x.crash() : x.trailer(a > 5);
            case 12:
                return x.memory(a, b, c);
            default:
                return x.state(a);
        }
    }

    private static int[] look(BodyRows2 x) {
        int[] seen = new int[33];
        for (int i = 0; i < 10; i++) {
            seen[i] = x.output(i);
            seen[10 + i] = x.state(i);
        }
        for (int load = 0; load <= 12; load++) {
            seen[20 + load] = x.isOn(load);
        }
        return seen;
    }

    private static void checkBounds(BodyRows2 x) {
        int[] greatest = {1, 1, 1, 1, 1, 2, 1, 100, 1, 1};
        for (int i = 0; i < 10; i++) {
            if (x.output(i) < 0 || x.output(i) > greatest[i]) {
                Check.holds("output " + i + " is in its range", false);
            }
        }
        for (int i = 0; i < 4; i++) {
            if (x.state(i) < 0 || x.state(i) > 200) {
                Check.holds("window " + i + " is in its range", false);
            }
        }
        if (x.state(4) < 0 || x.state(4) > 99 || x.state(5) < 0 || x.state(5) > 320) {
            Check.holds("the wiper is in its range", false);
        }
    }

    private static int argument() {
        return next(2) == 0 ? next(5) : Check.WILD[next(Check.WILD.length)];
    }

    /** A generator of its own, so that every run of the test is the same. */
    private static int next(int bound) {
        seed = seed * 6364136223846793005L + 1442695040888963407L;
        return (int) ((seed >>> 33) % bound);
    }
}
