/** Promise 16: state. */
public final class StateTest {
    public static void main(String[] args) {
        BodyRows2 x = new BodyRows2();
        int[] unknown = {-1, 10, 11, Integer.MIN_VALUE, Integer.MAX_VALUE};
        for (int what : unknown) {
            Check.due("state(" + what + ")", x.state(what), -2);
        }
        for (int i = 0; i < 4; i++) {
            x.window(i, 11 + i);
        }
        x.input(1, 50);
        x.input(2, 1);
        x.input(4, 1);
        x.input(5, 1);
        x.rain(2);
        x.bulb(4, false);
        int[] early = {11, 12, 13, 14, 40, 0, 1, 0, 1, 40};
        x.step(40);
        all(x, early);
        x.input(3, 1);
        x.step(80);
        int[] late = {11, 12, 13, 14, 0, 220, 3, 1, 1, 120};
        all(x, late);
        x.input(1, 500);
        Check.due("light", x.state(8), 0);
        x.step(0);
        Check.due("ticks", x.state(9), 120);
        all(x, 11, 12, 13, 14, 0, 220, 3, 1, 0, 120);
        Check.end();
    }

    private static void all(BodyRows2 x, int... want) {
        for (int what = 0; what < want.length; what++) {
            Check.due("state(" + what + ")", x.state(what), want[what]);
        }
    }
}
