/** Promises 7, 8 and 9: the loads. */
public final class LoadsTest {
    public static void main(String[] args) {
        numbers();
        rankOutside();
        rankAtTheEnds();
        full();
        noSuchLoad();
        onAtFirst();
        voltOutside();
        voltAtTheEnds();
        lowBelow();
        highAbove();
        lowIsZeroOtherwise();
        highIsZeroOtherwise();
        whenLowIsThree();
        whenHighIsThree();
        greatestRankFirst();
        leastRankBack();
        legalStay();
        noneToShed();
        noneOff();
        twelveOff();
        Check.end();
    }

    private static void shedTimes(BodyRows2 x, int volt, int times) {
        for (int n = 0; n < times; n++) {
            x.shed(volt);
        }
    }

    private static void on(BodyRows2 x, String when, int... want) {
        for (int i = 0; i < want.length; i++) {
            Check.due(when + ": isOn(" + (i + 1) + ")", x.isOn(i + 1), want[i]);
        }
    }

    private static BodyRows2 withOne() {
        BodyRows2 x = new BodyRows2();
        x.load(1, false);
        return x;
    }

    private static BodyRows2 withFive() {
        BodyRows2 x = new BodyRows2();
        x.load(5, false);
        x.load(7, false);
        x.load(9, true);
        x.load(7, false);
        x.load(5, false);
        return x;
    }

    private static void numbers() {
        Check.sentence("LOADS are numbered from 1 on; A LOAD: its number");
        BodyRows2 x = new BodyRows2();
        for (int n = 1; n <= 12; n++) {
            Check.due("load " + n, x.load(n % 10, n % 2 == 0), n);
        }
    }

    private static void rankOutside() {
        Check.sentence("-2 the RANK is none");
        BodyRows2 x = new BodyRows2();
        for (int rank : Check.outside(0, 9)) {
            Check.due("load(" + rank + ", false)", x.load(rank, false), -2);
            Check.due("load(" + rank + ", true)", x.load(rank, true), -2);
            Check.due("isOn(1)", x.isOn(1), -1);
        }
        Check.due("refusals take no number", x.load(0, false), 1);
    }

    private static void rankAtTheEnds() {
        Check.sentence("each with a RANK (0 .. 9)");
        BodyRows2 x = new BodyRows2();
        for (int rank = 0; rank <= 9; rank++) {
            Check.due("load(" + rank + ", false)", x.load(rank, false), rank + 1);
        }
        for (int off = 1; off <= 10; off++) {
            shedTimes(x, 0, 3);
            Check.due("the greatest RANK goes off", x.isOn(11 - off), 0);
            Check.due("so many are off", x.shed(12000), off);
        }
    }

    private static void full() {
        Check.sentence("at most 12; -4 there are 12");
        BodyRows2 x = new BodyRows2();
        for (int n = 1; n < 12; n++) {
            x.load(5, true);
        }
        Check.due("the twelfth", x.load(5, false), 12);
        Check.due("one more", x.load(9, false), -4);
        Check.due("one more that is LEGAL", x.load(0, true), -4);
        Check.due("one more with no RANK, the first that fits", x.load(10, true), -2);
        Check.due("one more with no RANK, the first that fits", x.load(-1, true), -2);
        Check.due("isOn(12)", x.isOn(12), 1);
        Check.due("isOn(13)", x.isOn(13), -1);
        shedTimes(x, 0, 3);
        Check.due("the twelfth goes off", x.isOn(12), 0);
        Check.due("still no room", x.load(5, false), -4);
        shedTimes(x, 0, 2);
        Check.due("no other can go off", x.shed(0), 1);
    }

    private static void noSuchLoad() {
        Check.sentence("Whether a LOAD is ON: 1 or 0. -1 there is none");
        BodyRows2 x = new BodyRows2();
        for (int n = 0; n <= 12; n++) {
            for (int load : Check.outside(1, n)) {
                Check.due("isOn(" + load + ") with " + n, x.isOn(load), -1);
            }
            for (int load = 1; load <= n; load++) {
                Check.due("isOn(" + load + ") with " + n, x.isOn(load), 1);
            }
            x.load(0, false);
        }
    }

    private static void onAtFirst() {
        Check.sentence("LEGAL or not, and ON (at first)");
        BodyRows2 x = new BodyRows2();
        x.load(9, false);
        shedTimes(x, 0, 3);
        x.load(9, false);
        x.load(3, true);
        on(x, "new ones behind one that is off", 0, 1, 1);
        Check.due("they are not off", x.shed(12000), 1);
    }

    private static void voltOutside() {
        Check.sentence("-2 volt is not 0 .. 20000");
        BodyRows2 x = withOne();
        shedTimes(x, 0, 2);
        for (int volt : Check.outside(0, 20000)) {
            Check.due("shed(" + volt + ")", x.shed(volt), -2);
        }
        on(x, "a refusal sheds nothing", 1);
        Check.due("a refusal leaves LOW as it was", x.shed(0), 1);
        shedTimes(x, 20000, 2);
        for (int volt : Check.outside(0, 20000)) {
            Check.due("shed(" + volt + ")", x.shed(volt), -2);
        }
        on(x, "a refusal restores nothing", 0);
        Check.due("a refusal leaves HIGH as it was", x.shed(20000), 0);
    }

    private static void voltAtTheEnds() {
        Check.sentence("volt is not 0 .. 20000");
        BodyRows2 x = withOne();
        Check.due("shed(0)", x.shed(0) + x.shed(0) + x.shed(0), 1);
        on(x, "0 is below 11500", 0);
        Check.due("shed(20000)", x.shed(20000) + x.shed(20000) + x.shed(20000), 2);
        on(x, "20000 is above 12500", 1);
    }

    private static void lowBelow() {
        Check.sentence("below 11500: LOW is one more");
        int[] notLow = {11500, 11501, 12000, 12500, 12501, 20000};
        for (int volt : notLow) {
            BodyRows2 x = withOne();
            shedTimes(x, volt, 9);
            on(x, "nine times " + volt, 1);
        }
        int[] low = {11499, 11498, 1, 0};
        for (int volt : low) {
            BodyRows2 x = withOne();
            shedTimes(x, volt, 3);
            on(x, "three times " + volt, 0);
        }
    }

    private static void highAbove() {
        Check.sentence("above 12500: HIGH is one more");
        int[] notHigh = {12500, 12499, 12000, 11500, 11499, 0};
        for (int volt : notHigh) {
            BodyRows2 x = withOne();
            shedTimes(x, 0, 3);
            shedTimes(x, volt, 9);
            on(x, "nine times " + volt, 0);
        }
        int[] high = {12501, 12502, 19999, 20000};
        for (int volt : high) {
            BodyRows2 x = withOne();
            shedTimes(x, 0, 3);
            shedTimes(x, volt, 3);
            on(x, "three times " + volt, 1);
        }
    }

    private static void lowIsZeroOtherwise() {
        Check.sentence("above 12500: .. LOW 0; otherwise both are 0");
        int[] breaks = {11500, 12000, 12500, 12501, 20000};
        for (int volt : breaks) {
            BodyRows2 x = withOne();
            shedTimes(x, 0, 2);
            x.shed(volt);
            shedTimes(x, 0, 2);
            on(x, "LOW from 0 on behind " + volt, 1);
            Check.due("LOW is 3", x.shed(0), 1);
        }
    }

    private static void highIsZeroOtherwise() {
        Check.sentence("below 11500: .. HIGH 0; .. otherwise both are 0");
        int[] breaks = {0, 11499, 11500, 12000, 12500};
        for (int volt : breaks) {
            BodyRows2 x = withOne();
            shedTimes(x, 0, 3);
            shedTimes(x, 20000, 2);
            x.shed(volt);
            shedTimes(x, 20000, 2);
            on(x, "HIGH from 0 on behind " + volt, 0);
            Check.due("HIGH is 3", x.shed(20000), 0);
        }
    }

    private static void whenLowIsThree() {
        Check.sentence("When LOW is 3: .. goes off, and LOW is 0");
        BodyRows2 x = withFive();
        int[] off = {0, 0, 1, 1, 1, 2, 2, 2, 3, 3, 3, 4};
        for (int n = 0; n < off.length; n++) {
            Check.due("shed " + (n + 1), x.shed(11499), off[n]);
        }
    }

    private static void whenHighIsThree() {
        Check.sentence("when HIGH is 3: .. is ON again, and HIGH is 0");
        BodyRows2 x = withFive();
        shedTimes(x, 0, 12);
        int[] off = {4, 4, 3, 3, 3, 2, 2, 2, 1, 1, 1, 0};
        for (int n = 0; n < off.length; n++) {
            Check.due("shed " + (n + 1), x.shed(12501), off[n]);
        }
    }

    private static void greatestRankFirst() {
        Check.sentence("the one with the greatest RANK, of these the greatest number, goes off");
        BodyRows2 x = withFive();
        shedTimes(x, 0, 3);
        on(x, "first", 1, 1, 1, 0, 1);
        shedTimes(x, 0, 3);
        on(x, "second", 1, 0, 1, 0, 1);
        shedTimes(x, 0, 3);
        on(x, "third", 1, 0, 1, 0, 0);
        shedTimes(x, 0, 3);
        on(x, "fourth", 0, 0, 1, 0, 0);
    }

    private static void leastRankBack() {
        Check.sentence("of those that are off the one with the least RANK, of these the least number, is ON again");
        BodyRows2 x = withFive();
        shedTimes(x, 0, 12);
        shedTimes(x, 20000, 3);
        on(x, "first", 1, 0, 1, 0, 0);
        shedTimes(x, 20000, 3);
        on(x, "second", 1, 0, 1, 0, 1);
        shedTimes(x, 20000, 3);
        on(x, "third", 1, 1, 1, 0, 1);
        shedTimes(x, 20000, 3);
        on(x, "fourth", 1, 1, 1, 1, 1);
    }

    private static void legalStay() {
        Check.sentence("of the LOADS that are ON and not LEGAL");
        BodyRows2 x = new BodyRows2();
        x.load(9, true);
        x.load(0, true);
        for (int n = 0; n < 9; n++) {
            Check.due("LEGAL ones stay", x.shed(0), 0);
        }
        on(x, "LEGAL", 1, 1);
    }

    private static void noneToShed() {
        Check.sentence("When LOW is 3: .. and LOW is 0 (with none to go off)");
        BodyRows2 x = new BodyRows2();
        shedTimes(x, 0, 3);
        x.load(1, false);
        Check.due("LOW is 1, 2", x.shed(0) + x.shed(0), 0);
        Check.due("LOW is 3", x.shed(0), 1);
        x = new BodyRows2();
        shedTimes(x, 0, 2);
        x.load(1, false);
        Check.due("LOW was 2 before there was a load", x.shed(0), 1);
        shedTimes(x, 0, 2);
        Check.due("none is left", x.shed(0), 1);
        x.load(1, false);
        shedTimes(x, 0, 2);
        on(x, "LOW is 2", 0, 1);
        Check.due("LOW is 3", x.shed(0), 2);
    }

    private static void noneOff() {
        Check.sentence("when HIGH is 3: .. and HIGH is 0 (with none that is off)");
        BodyRows2 x = withOne();
        shedTimes(x, 20000, 3);
        on(x, "none is off", 1);
        shedTimes(x, 0, 3);
        Check.due("HIGH is 1, 2", x.shed(20000) + x.shed(20000), 2);
        Check.due("HIGH is 3", x.shed(20000), 0);
        Check.due("no loads at all", shedThrice(new BodyRows2(), 20000), 0);
    }

    private static int shedThrice(BodyRows2 x, int volt) {
        shedTimes(x, volt, 2);
        return x.shed(volt);
    }

    private static void twelveOff() {
        Check.sentence("How many are off");
        BodyRows2 x = new BodyRows2();
        for (int n = 1; n <= 12; n++) {
            x.load(4, false);
        }
        for (int off = 1; off <= 12; off++) {
            Check.due("off", shedThrice(x, 0), off);
            Check.due("the greatest number goes off", x.isOn(13 - off), 0);
        }
        Check.due("no more than 12", shedThrice(x, 0), 12);
        for (int off = 11; off >= 0; off--) {
            Check.due("off", shedThrice(x, 20000), off);
            Check.due("the least number is ON again", x.isOn(12 - off), 1);
        }
        Check.due("no less than 0", shedThrice(x, 20000), 0);
    }
}
