/** Promises 4, 5, 6 and 12: the windows. */
public final class WindowsTest {
    public static void main(String[] args) {
        noSuchWindow();
        wishOutside();
        forceOutside();
        for (int i = 0; i < 4; i++) {
            wishAtTheEnds(i);
            goesByOne(i);
            goesByTwo(i);
            lastTimeByLess(i);
            ticksFromHere(i);
            pinchAboveAHundred(i);
            pinchNeedsAWayUp(i);
            sixtyBelow(i);
            learnsAtOpen(i);
            learnsAtClosed(i);
            doesNotLearnElsewhere(i);
            staysLearned(i);
        }
        ticksAreWhatIsTold();
        Check.end();
    }

    /** A window at a place, at rest. */
    private static BodyRows2 at(int i, int place) {
        BodyRows2 x = new BodyRows2();
        x.window(i, place);
        x.step(place);
        Check.due("place of " + i, x.state(i), place);
        return x;
    }

    private static void wish(String when, BodyRows2 x, int i, int due) {
        Check.due(when + ": WISH of " + i, x.memory(3, i, 0), due);
    }

    private static void noSuchWindow() {
        Check.sentence("-1 there is no window");
        BodyRows2 x = new BodyRows2();
        for (int i = 0; i < 4; i++) {
            x.window(i, 50 + i);
        }
        x.step(10);
        for (int i : Check.outside(0, 3)) {
            Check.due("window(" + i + ", 0)", x.window(i, 0), -1);
            Check.due("window(" + i + ", 200)", x.window(i, 200), -1);
            Check.due("pinch(" + i + ", 0)", x.pinch(i, 0), -1);
            Check.due("pinch(" + i + ", 1000)", x.pinch(i, 1000), -1);
            Check.due("learn(" + i + ")", x.learn(i), -1);
        }
        for (int i = 0; i < 4; i++) {
            wish("refused", x, i, 50 + i);
            Check.due("refused: nothing LEARNED", x.window(i, 20), 10);
        }
    }

    private static void wishOutside() {
        Check.sentence("-2 the WISH is none");
        for (int i = 0; i < 4; i++) {
            BodyRows2 x = at(i, 50);
            for (int wish : Check.outside(0, 200)) {
                Check.due("window(" + i + ", " + wish + ")", x.window(i, wish), -2);
                wish("refused", x, i, 50);
            }
            x.step(1000);
            Check.due("place", x.state(i), 50);
        }
    }

    private static void forceOutside() {
        Check.sentence("-2 the force is not 0 .. 1000");
        for (int i = 0; i < 4; i++) {
            BodyRows2 x = at(i, 100);
            x.window(i, 200);
            for (int force : Check.outside(0, 1000)) {
                Check.due("pinch(" + i + ", " + force + ")", x.pinch(i, force), -2);
                wish("refused", x, i, 200);
            }
            Check.due("pinch(" + i + ", 0)", x.pinch(i, 0), 0);
            Check.due("pinch(" + i + ", 1000)", x.pinch(i, 1000), 1);
        }
    }

    private static void wishAtTheEnds(int i) {
        Check.sentence("A window's WISH (0 .. 200)");
        BodyRows2 x = new BodyRows2();
        Check.due("window(i, 0)", x.window(i, 0), 0);
        Check.due("window(i, 200)", x.window(i, 200), 200);
        wish("closed", x, i, 200);
        x.step(1000);
        Check.due("no further than closed", x.state(i), 200);
        Check.due("window(i, 200)", x.window(i, 200), 0);
        Check.due("window(i, 0)", x.window(i, 0), 200);
        wish("open", x, i, 0);
        x.step(1000);
        Check.due("no further than open", x.state(i), 0);
    }

    private static void goesByOne(int i) {
        Check.sentence("go to it by 2 if LEARNED, otherwise by 1");
        BodyRows2 x = new BodyRows2();
        x.window(i, 200);
        Check.due("windows are no outputs", x.step(1), 0);
        for (int other = 0; other < 4; other++) {
            Check.due("place of " + other, x.state(other), other == i ? 1 : 0);
        }
        x.step(198);
        Check.due("almost closed", x.state(i), 199);
        x.step(1);
        Check.due("closed", x.state(i), 200);
        x.window(i, 0);
        x.step(1);
        Check.due("opens", x.state(i), 199);
        x.step(198);
        Check.due("almost open", x.state(i), 1);
        x.step(1);
        Check.due("open", x.state(i), 0);
    }

    private static void goesByTwo(int i) {
        Check.sentence("go to it by 2 if LEARNED");
        BodyRows2 x = new BodyRows2();
        x.learn(i);
        for (int other = 0; other < 4; other++) {
            x.window(other, 200);
        }
        x.step(1);
        for (int other = 0; other < 4; other++) {
            Check.due("place of " + other, x.state(other), other == i ? 2 : 1);
        }
        x.step(98);
        Check.due("almost closed", x.state(i), 198);
        x.step(1);
        Check.due("closed", x.state(i), 200);
        x.window(i, 0);
        x.step(1);
        Check.due("opens", x.state(i), 198);
        x.step(99);
        Check.due("open", x.state(i), 0);
    }

    private static void lastTimeByLess(int i) {
        Check.sentence("(the last time by less, if that is enough)");
        BodyRows2 x = new BodyRows2();
        x.learn(i);
        x.window(i, 5);
        x.step(2);
        Check.due("by 2", x.state(i), 4);
        x.step(1);
        Check.due("up by 1", x.state(i), 5);
        x.step(1);
        Check.due("it stays", x.state(i), 5);
        x.window(i, 2);
        x.step(1);
        Check.due("down by 2", x.state(i), 3);
        x.step(1);
        Check.due("down by 1", x.state(i), 2);
        x.step(1);
        Check.due("it stays", x.state(i), 2);
        x.window(i, 199);
        x.step(1000);
        x.window(i, 200);
        x.step(1);
        Check.due("closed, and no further", x.state(i), 200);
        x.window(i, 1);
        x.step(1000);
        x.window(i, 0);
        x.step(1);
        Check.due("open, and no further", x.state(i), 0);
    }

    private static void ticksFromHere(int i) {
        Check.sentence("how many TICKS it takes from here");
        BodyRows2 x = at(i, 100);
        Check.due("none", x.window(i, 100), 0);
        Check.due("one up", x.window(i, 101), 1);
        Check.due("one down", x.window(i, 99), 1);
        Check.due("to closed", x.window(i, 200), 100);
        Check.due("to open", x.window(i, 0), 100);
        x = new BodyRows2();
        x.learn(i);
        x.window(i, 100);
        x.step(50);
        Check.due("LEARNED: none", x.window(i, 100), 0);
        Check.due("LEARNED: one up", x.window(i, 101), 1);
        Check.due("LEARNED: two up", x.window(i, 102), 1);
        Check.due("LEARNED: three up", x.window(i, 103), 2);
        Check.due("LEARNED: one down", x.window(i, 99), 1);
        Check.due("LEARNED: two down", x.window(i, 98), 1);
        Check.due("LEARNED: three down", x.window(i, 97), 2);
        Check.due("LEARNED: to closed", x.window(i, 200), 50);
        Check.due("LEARNED: to open", x.window(i, 0), 50);
    }

    private static void ticksAreWhatIsTold() {
        Check.sentence("how many TICKS it takes from here");
        for (int from = 0; from <= 200; from += 25) {
            for (int to = 0; to <= 200; to += 9) {
                for (int learned = 0; learned < 2; learned++) {
                    BodyRows2 x = new BodyRows2();
                    if (learned == 1) {
                        x.learn(3);
                    }
                    x.step(x.window(3, from));
                    Check.due("at " + from, x.state(3), from);
                    int ticks = x.window(3, to);
                    if (ticks > 0) {
                        x.step(ticks - 1);
                        Check.holds("not yet at " + to + " from " + from, x.state(3) != to);
                        x.step(1);
                    }
                    Check.due("at " + to + " from " + from, x.state(3), to);
                }
            }
        }
    }

    private static void pinchAboveAHundred(int i) {
        Check.sentence("and the force is above 100");
        int[] weak = {0, 1, 99, 100};
        int[] strong = {101, 102, 999, 1000};
        for (int force : weak) {
            BodyRows2 x = at(i, 90);
            x.window(i, 200);
            Check.due("pinch(i, " + force + ")", x.pinch(i, force), 0);
            wish("goes on", x, i, 200);
        }
        for (int force : strong) {
            BodyRows2 x = at(i, 90);
            x.window(i, 200);
            Check.due("pinch(i, " + force + ")", x.pinch(i, force), 1);
            wish("goes back", x, i, 30);
            x.step(1);
            Check.due("place", x.state(i), 89);
        }
    }

    private static void pinchNeedsAWayUp(int i) {
        Check.sentence("if it goes up (its WISH is more than its place)");
        int[] wishes = {100, 99, 0};
        for (int wish : wishes) {
            BodyRows2 x = at(i, 100);
            x.window(i, wish);
            Check.due("WISH " + wish, x.pinch(i, 1000), 0);
            wish("as it was", x, i, wish);
        }
        BodyRows2 x = at(i, 100);
        x.window(i, 101);
        Check.due("WISH 101", x.pinch(i, 1000), 1);
        wish("reversed", x, i, 40);
        Check.due("again, on its way down", x.pinch(i, 1000), 0);
        wish("reversed once", x, i, 40);
        Check.due("open, at rest", new BodyRows2().pinch(i, 1000), 0);
        Check.due("closed, at rest", at(i, 200).pinch(i, 1000), 0);
    }

    private static void sixtyBelow(int i) {
        Check.sentence("its WISH is 60 below its place (0 at least)");
        int[] places = {0, 1, 59, 60, 61, 62, 199};
        int[] wishes = {0, 0, 0, 0, 1, 2, 139};
        for (int n = 0; n < places.length; n++) {
            BodyRows2 x = at(i, places[n]);
            x.window(i, 200);
            Check.due("pinch at " + places[n], x.pinch(i, 101), 1);
            wish("at " + places[n], x, i, wishes[n]);
            x.step(1000);
            Check.due("it goes there", x.state(i), wishes[n]);
        }
    }

    private static void learnsAtOpen(int i) {
        Check.sentence("if it is at 0 .. with that WISH");
        BodyRows2 x = new BodyRows2();
        x.window(i, 1);
        Check.due("at 0, WISH 1", x.learn(i), 0);
        x.window(i, 200);
        Check.due("at 0, WISH 200", x.learn(i), 0);
        Check.due("not LEARNED", x.window(i, 0) + x.window(i, 200), 200);
        x.window(i, 0);
        Check.due("at 0, WISH 0", x.learn(i), 1);
        Check.due("LEARNED", x.window(i, 200), 100);
    }

    private static void learnsAtClosed(int i) {
        Check.sentence("if it is at .. 200 with that WISH");
        BodyRows2 x = at(i, 200);
        x.window(i, 199);
        Check.due("at 200, WISH 199", x.learn(i), 0);
        Check.due("not LEARNED", x.window(i, 0), 200);
        Check.due("at 200, WISH 0", x.learn(i), 0);
        Check.due("not LEARNED", x.window(i, 0), 200);
        x.window(i, 200);
        Check.due("at 200, WISH 200", x.learn(i), 1);
        Check.due("LEARNED", x.window(i, 0), 100);
    }

    private static void doesNotLearnElsewhere(int i) {
        Check.sentence("if it is at 0 or 200 with that WISH: 1; otherwise 0");
        int[] places = {1, 2, 100, 198, 199};
        for (int place : places) {
            BodyRows2 x = at(i, place);
            Check.due("at rest at " + place, x.learn(i), 0);
            x.window(i, 0);
            Check.due("at " + place + ", WISH 0", x.learn(i), 0);
            x.window(i, 200);
            Check.due("at " + place + ", WISH 200", x.learn(i), 0);
            Check.due("not LEARNED", x.window(i, 0), place);
        }
    }

    private static void staysLearned(int i) {
        Check.sentence("A window is LEARNED from now on");
        BodyRows2 x = new BodyRows2();
        Check.due("learn", x.learn(i), 1);
        Check.due("learn again", x.learn(i), 1);
        x.window(i, 100);
        x.step(10);
        Check.due("LEARNED, on its way", x.learn(i), 0);
        Check.due("it is still LEARNED", x.window(i, 200), 90);
        x.crash();
        x.step(10);
        Check.due("behind a CRASH too", x.state(i), 0);
        for (int other = 0; other < 4; other++) {
            Check.due("the others are not", x.window(other, 20), other == i ? 10 : 20);
        }
    }
}
