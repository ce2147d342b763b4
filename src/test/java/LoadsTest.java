/** Promises 7, 8 and 9: the loads. */
public final class LoadsTest {
    public static void main(String[] args) {
        numbers();
        refusals();
        bounds();
        greatestRankFirst();
        leastRankBack();
        legalStay();
        countsStartAnew();
        countsGoOnWithoutLoads();
        aNewLoadIsOn();
        Check.end();
    }

    private static void shedTimes(BodyRows2 x, int volt, int times) {
        for (int n = 0; n < times; n++) {
            x.shed(volt);
        }
    }

    private static void on(BodyRows2 x, String when, int... want) {
        for (int i = 0; i < want.length; i++) {
            Check.due(when + ": isOn(" + (i + 1) + ")", x.isOn(i + 1), want[i]);
        }
    }

    private static void numbers() {
        BodyRows2 x = new BodyRows2();
        for (int n = 1; n <= 12; n++) {
            Check.due("isOn before", x.isOn(n), -1);
            Check.due("load", x.load(n % 10, n % 2 == 0), n);
            Check.due("isOn behind", x.isOn(n), 1);
        }
        Check.due("a load more", x.load(0, true), -4);
        Check.due("a load more with no RANK, the first that fits", x.load(10, true), -2);
        Check.due("isOn(13)", x.isOn(13), -1);
    }

    private static void refusals() {
        BodyRows2 x = new BodyRows2();
        int[] ranks = {-1, 10, Integer.MIN_VALUE, Integer.MAX_VALUE};
        for (int rank : ranks) {
            Check.due("load(" + rank + ", false)", x.load(rank, false), -2);
            Check.due("load(" + rank + ", true)", x.load(rank, true), -2);
        }
        Check.due("load(0, false)", x.load(0, false), 1);
        Check.due("load(9, false)", x.load(9, false), 2);
        int[] loads = {-1, 0, 3, 12, 13, Integer.MIN_VALUE, Integer.MAX_VALUE};
        for (int load : loads) {
            Check.due("isOn(" + load + ")", x.isOn(load), -1);
        }
        int[] volts = {-1, 20001, Integer.MIN_VALUE, Integer.MAX_VALUE};
        shedTimes(x, 0, 2);
        for (int volt : volts) {
            Check.due("shed(" + volt + ")", x.shed(volt), -2);
        }
        Check.due("a refusal leaves LOW as it was", x.shed(0), 1);
        shedTimes(x, 20000, 2);
        for (int volt : volts) {
            Check.due("shed(" + volt + ")", x.shed(volt), -2);
        }
        Check.due("a refusal leaves HIGH as it was", x.shed(20000), 0);
    }

    private static void bounds() {
        BodyRows2 x = new BodyRows2();
        x.load(1, false);
        shedTimes(x, 11500, 9);
        on(x, "11500 is not LOW", 1);
        shedTimes(x, 11499, 2);
        on(x, "twice LOW", 1);
        Check.due("thrice LOW", x.shed(11499), 1);
        on(x, "thrice LOW", 0);
        shedTimes(x, 12500, 9);
        on(x, "12500 is not HIGH", 0);
        shedTimes(x, 12501, 2);
        on(x, "twice HIGH", 0);
        Check.due("thrice HIGH", x.shed(12501), 0);
        on(x, "thrice HIGH", 1);
    }

    private static BodyRows2 withFive() {
        BodyRows2 x = new BodyRows2();
        x.load(5, false);
        x.load(7, false);
        x.load(9, true);
        x.load(7, false);
        x.load(5, false);
        return x;
    }

    private static void greatestRankFirst() {
        BodyRows2 x = withFive();
        shedTimes(x, 0, 3);
        on(x, "first", 1, 1, 1, 0, 1);
        shedTimes(x, 0, 3);
        on(x, "second", 1, 0, 1, 0, 1);
        shedTimes(x, 0, 3);
        on(x, "third", 1, 0, 1, 0, 0);
        shedTimes(x, 0, 3);
        on(x, "fourth", 0, 0, 1, 0, 0);
        shedTimes(x, 0, 2);
        Check.due("none is left", x.shed(0), 4);
        on(x, "fifth", 0, 0, 1, 0, 0);
    }

    private static void leastRankBack() {
        BodyRows2 x = withFive();
        shedTimes(x, 0, 12);
        shedTimes(x, 20000, 3);
        on(x, "first", 1, 0, 1, 0, 0);
        shedTimes(x, 20000, 3);
        on(x, "second", 1, 0, 1, 0, 1);
        shedTimes(x, 20000, 3);
        on(x, "third", 1, 1, 1, 0, 1);
        shedTimes(x, 20000, 2);
        Check.due("fourth", x.shed(20000), 0);
        on(x, "fourth", 1, 1, 1, 1, 1);
    }

    private static void legalStay() {
        BodyRows2 x = new BodyRows2();
        x.load(9, true);
        x.load(0, true);
        for (int n = 0; n < 9; n++) {
            Check.due("LEGAL ones stay", x.shed(0), 0);
        }
        on(x, "LEGAL", 1, 1);
    }

    private static void countsStartAnew() {
        BodyRows2 x = withFive();
        int[] breaks = {11500, 12000, 12500, 12501, 20000};
        for (int volt : breaks) {
            shedTimes(x, 0, 2);
            x.shed(volt);
            shedTimes(x, 0, 2);
            Check.due("LOW from 0 on behind " + volt, x.shed(12000), 0);
        }
        shedTimes(x, 0, 3);
        int[] lows = {0, 11499, 11500, 12000, 12500};
        for (int volt : lows) {
            shedTimes(x, 20000, 2);
            x.shed(volt);
            shedTimes(x, 20000, 2);
            Check.due("HIGH from 0 on behind " + volt, x.shed(12000), 1);
        }
        Check.due("thrice HIGH", x.shed(20000) + x.shed(20000) + x.shed(20000), 2);
        shedTimes(x, 0, 4);
        Check.due("LOW is 0 behind a shedding", x.shed(0), 1);
        Check.due("and 3 again", x.shed(0), 2);
    }

    private static void countsGoOnWithoutLoads() {
        BodyRows2 x = new BodyRows2();
        shedTimes(x, 0, 3);
        x.load(1, false);
        Check.due("LOW was 3 without a load, and is 0", x.shed(0) + x.shed(0), 0);
        Check.due("3 again", x.shed(0), 1);
        x = new BodyRows2();
        shedTimes(x, 0, 2);
        x.load(1, false);
        Check.due("LOW was 2 before there was a load", x.shed(0), 1);
        x = new BodyRows2();
        x.load(1, false);
        shedTimes(x, 20000, 3);
        shedTimes(x, 0, 3);
        Check.due("HIGH was 3 with none off, and is 0", x.shed(20000) + x.shed(20000), 2);
        Check.due("3 again", x.shed(20000), 0);
    }

    private static void aNewLoadIsOn() {
        BodyRows2 x = new BodyRows2();
        x.load(9, false);
        shedTimes(x, 0, 3);
        x.load(9, false);
        on(x, "a new one", 0, 1);
        x.load(3, true);
        shedTimes(x, 0, 3);
        on(x, "shed", 0, 0, 1);
    }
}
