/** Promise 16: state. */
public final class StateTest {
    public static void main(String[] args) {
        noSuchWhat();
        eachIsItsOwn();
        ticksInAll();
        Check.end();
    }

    private static BodyRows2 made() {
        BodyRows2 x = new BodyRows2();
        for (int i = 0; i < 4; i++) {
            x.window(i, 11 + i);
        }
        x.input(1, 50);
        x.input(2, 1);
        x.input(4, 1);
        x.input(5, 1);
        x.rain(2);
        x.bulb(4, false);
        return x;
    }

    private static void noSuchWhat() {
        Check.sentence("-2 there is no such what");
        BodyRows2 x = made();
        x.step(40);
        for (int what : Check.outside(0, 9)) {
            Check.due("state(" + what + ")", x.state(what), -2);
        }
        Check.states("refused", x, 11, 12, 13, 14, 40, 0, 1, 0, 1, 40);
    }

    private static void eachIsItsOwn() {
        Check.sentence("What = 0 to 3: a window's place, 4 the wiper's, 5 the PAUSE, 6, 7 the sides' COUNTS, 8 1 if it is DARK");
        BodyRows2 x = made();
        Check.states("before a tick", x, 0, 0, 0, 0, 0, 0, 0, 0, 1, 0);
        x.step(10);
        Check.states("on their way", x, 10, 10, 10, 10, 10, 0, 0, 0, 1, 10);
        x.step(30);
        Check.states("there", x, 11, 12, 13, 14, 40, 0, 1, 0, 1, 40);
        x.input(3, 1);
        x.step(80);
        Check.states("later", x, 11, 12, 13, 14, 0, 220, 3, 1, 1, 120);
        x.input(1, 500);
        Check.states("light", x, 11, 12, 13, 14, 0, 220, 3, 1, 0, 120);
        Check.states("looking changes nothing", x, 11, 12, 13, 14, 0, 220, 3, 1, 0, 120);
    }

    private static void ticksInAll() {
        Check.sentence("9 TICKS in all");
        BodyRows2 x = new BodyRows2();
        int[] steps = {0, 1, 0, 999, 1000, -1, 1001, 7};
        int[] ticks = {0, 1, 1, 1000, 2000, 2000, 2000, 2007};
        for (int n = 0; n < steps.length; n++) {
            x.step(steps[n]);
            Check.due("behind step(" + steps[n] + ")", x.state(9), ticks[n]);
        }
        x.crash();
        x.input(5, 1);
        Check.due("only step goes on", x.state(9), 2007);
    }
}
