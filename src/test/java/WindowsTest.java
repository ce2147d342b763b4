/** Promises 4, 5, 6 and 12: the windows. */
public final class WindowsTest {
    private static final int[] UNKNOWN = {-1, 4, 5, Integer.MIN_VALUE, Integer.MAX_VALUE};

    public static void main(String[] args) {
        refusals();
        for (int i = 0; i < 4; i++) {
            goesByOne(i);
            goesByTwo(i);
            reversesAtAPinch(i);
            learnsAtTheEnds(i);
        }
        ticksAreWhatIsTold();
        pinchNeedsAWayUp();
        Check.end();
    }

    private static void refusals() {
        BodyRows2 x = new BodyRows2();
        int[] wishes = {-1, 201, Integer.MIN_VALUE, Integer.MAX_VALUE};
        int[] forces = {-1, 1001, Integer.MIN_VALUE, Integer.MAX_VALUE};
        x.window(0, 50);
        x.step(10);
        for (int i : UNKNOWN) {
            Check.due("window(" + i + ", 0)", x.window(i, 0), -1);
            Check.due("window(" + i + ", 201), the first that fits", x.window(i, 201), -1);
            Check.due("pinch(" + i + ", 0)", x.pinch(i, 0), -1);
            Check.due("pinch(" + i + ", 1001), the first that fits", x.pinch(i, 1001), -1);
            Check.due("learn(" + i + ")", x.learn(i), -1);
        }
        for (int wish : wishes) {
            Check.due("window(0, " + wish + ")", x.window(0, wish), -2);
        }
        for (int force : forces) {
            Check.due("pinch(0, " + force + ")", x.pinch(0, force), -2);
        }
        x.step(100);
        Check.due("refusals change no WISH", x.state(0), 50);
    }

    private static void goesByOne(int i) {
        BodyRows2 x = new BodyRows2();
        Check.due("window(i, 200)", x.window(i, 200), 200);
        Check.due("windows are no outputs", x.step(1), 0);
        for (int other = 0; other < 4; other++) {
            Check.due("place of " + other, x.state(other), other == i ? 1 : 0);
        }
        x.step(198);
        Check.due("almost closed", x.state(i), 199);
        x.step(1);
        Check.due("closed", x.state(i), 200);
        x.step(10);
        Check.due("stays", x.state(i), 200);
        Check.due("window(i, 0)", x.window(i, 0), 200);
        x.step(1);
        Check.due("opens", x.state(i), 199);
        x.step(300);
        Check.due("open", x.state(i), 0);
    }

    private static void goesByTwo(int i) {
        BodyRows2 x = new BodyRows2();
        Check.due("learn", x.learn(i), 1);
        Check.due("window(i, 5)", x.window(i, 5), 3);
        x.step(2);
        Check.due("by 2", x.state(i), 4);
        x.step(1);
        Check.due("the last time by less", x.state(i), 5);
        x.step(1);
        Check.due("stays", x.state(i), 5);
        Check.due("window(i, 2)", x.window(i, 2), 2);
        x.step(1);
        Check.due("down by 2", x.state(i), 3);
        x.step(1);
        Check.due("the last time by less", x.state(i), 2);
        x.step(1);
        Check.due("stays", x.state(i), 2);
    }

    private static void reversesAtAPinch(int i) {
        BodyRows2 x = new BodyRows2();
        x.window(i, 200);
        x.step(90);
        Check.due("pinch(i, 0)", x.pinch(i, 0), 0);
        Check.due("pinch(i, 100)", x.pinch(i, 100), 0);
        x.step(1);
        Check.due("goes on", x.state(i), 91);
        Check.due("pinch(i, 101)", x.pinch(i, 101), 1);
        Check.due("WISH", x.memory(0, i, 0), 31);
        Check.due("pinch on the way down", x.pinch(i, 1000), 0);
        x.step(100);
        Check.due("60 below", x.state(i), 31);
        x.window(i, 200);
        Check.due("pinch(i, 1000)", x.pinch(i, 1000), 1);
        Check.due("WISH is 0 at least", x.memory(0, i, 0), 0);
        x.step(29);
        x.step(100);
        Check.due("open", x.state(i), 0);
    }

    private static void learnsAtTheEnds(int i) {
        BodyRows2 x = new BodyRows2();
        x.window(i, 200);
        Check.due("at 0 with another WISH", x.learn(i), 0);
        x.step(100);
        Check.due("on the way", x.learn(i), 0);
        x.window(i, 100);
        Check.due("at rest between", x.learn(i), 0);
        x.window(i, 200);
        x.step(100);
        Check.due("not learned yet", x.window(i, 0), 200);
        Check.due("at 200 with another WISH", x.learn(i), 0);
        x.window(i, 200);
        Check.due("at 200", x.learn(i), 1);
        Check.due("learned", x.window(i, 0), 100);
        Check.due("at 200 with another WISH, learned", x.learn(i), 0);
        x.step(10);
        Check.due("still learned", x.state(i), 180);
        for (int other = 0; other < 4; other++) {
            Check.due("the others are not", x.window(other, 20), other == i ? 80 : 20);
        }
    }

    private static void ticksAreWhatIsTold() {
        for (int from = 0; from <= 200; from += 25) {
            for (int to = 0; to <= 200; to += 9) {
                for (int learned = 0; learned < 2; learned++) {
                    BodyRows2 x = new BodyRows2();
                    if (learned == 1) {
                        x.learn(3);
                    }
                    x.step(x.window(3, from));
                    Check.due("at " + from, x.state(3), from);
                    int ticks = x.window(3, to);
                    if (ticks > 0) {
                        x.step(ticks - 1);
                        Check.holds("not yet at " + to + " from " + from, x.state(3) != to);
                        x.step(1);
                    }
                    Check.due("at " + to + " from " + from, x.state(3), to);
                }
            }
        }
    }

    private static void pinchNeedsAWayUp() {
        BodyRows2 x = new BodyRows2();
        Check.due("at rest at 0", x.pinch(0, 500), 0);
        x.window(0, 200);
        x.step(200);
        Check.due("at rest at 200", x.pinch(0, 500), 0);
        x.window(0, 199);
        Check.due("on the way down", x.pinch(0, 500), 0);
        Check.due("WISH stays", x.memory(0, 0, 0), 199);
        x.step(1);
        x.window(0, 200);
        Check.due("one below its WISH", x.pinch(0, 500), 1);
        Check.due("WISH", x.memory(0, 0, 0), 139);
    }
}
