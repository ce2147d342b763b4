/** The limit of an object's use. */
public final class CallsTest {
    private static final int MOST_CALLS = 512;
    private static final int SHAPES = 15;

    public static void main(String[] args) {
        Check.sentence("An object is used for at most 512 calls after it has been made");
        for (int shape = 0; shape < SHAPES; shape++) {
            theLastCallAnswers(shape);
        }
        mostTicks();
        mostCounts();
        mostLoads();
        mostVolts();
        Check.end();
    }

    private static void theLastCallAnswers(int shape) {
        BodyRows2 x = new BodyRows2();
        for (int n = 1; n < MOST_CALLS; n++) {
            Check.due("call " + n, x.input(7, n % 2), 1);
        }
        int[] due = {1, 1, 0, 0, 1, 0, 1, -1, 2, 0, 200, 3, 0, 0, 0};
        Check.due("call 512, shape " + shape, call(x, shape), due[shape]);
    }

    private static int call(BodyRows2 x, int shape) {
        switch (shape) {
            case 0:
                return x.input(0, 1);
            case 1:
                return x.output(6);
            case 2:
                return x.step(1000);
            case 3:
                return x.pinch(0, 1);
            case 4:
                return x.learn(0);
            case 5:
                return x.shed(0);
            case 6:
                return x.load(0, false);
            case 7:
                return x.isOn(1);
            case 8:
                return x.bulb(0, false);
            case 9:
                return x.rain(1);
            case 10:
                return x.window(0, 200);
            case 11:
                return x.crash();
            case 12:
                return x.memory(0, 0, 0);
            case 13:
                return x.trailer(true);
            default:
                return x.state(9);
        }
    }

    private static void mostTicks() {
        BodyRows2 x = new BodyRows2();
        for (int n = 1; n < MOST_CALLS; n++) {
            Check.due("step " + n, x.step(1000), 0);
        }
        Check.due("TICKS in all", x.state(9), 511000);
    }

    private static void mostCounts() {
        for (int side = 0; side < 2; side++) {
            BodyRows2 x = new BodyRows2();
            x.bulb(4 + side, false);
            x.input(3, 1);
            for (int n = 3; n < MOST_CALLS; n++) {
                x.step(1000);
            }
            Check.due("COUNT of side " + side, x.state(6 + side), 12725);
        }
    }

    private static void mostLoads() {
        BodyRows2 x = new BodyRows2();
        for (int n = 1; n < MOST_CALLS; n++) {
            Check.due("load " + n, x.load(0, false), n <= 12 ? n : -4);
        }
        Check.due("isOn(12)", x.isOn(12), 1);
    }

    private static void mostVolts() {
        BodyRows2 x = new BodyRows2();
        x.load(0, true);
        x.load(0, false);
        for (int n = 1; n <= 509; n++) {
            Check.due("shed " + n, x.shed(0), n < 3 ? 0 : 1);
        }
        Check.due("the last shed", x.shed(0), 1);
    }
}
