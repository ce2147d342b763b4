/** Promises 4 and 11: the wiper and the rain. */
public final class WiperTest {
    public static void main(String[] args) {
        rainAnswersWhatItWas();
        rainOutside();
        placeIsInItsRange();
        for (int rain = 0; rain <= 9; rain++) {
            speedByRain(rain);
            speedBySwitch(rain);
            pauseByRain(rain);
            noPauseAtAnotherSwitch(rain);
        }
        noSpeedWithoutIgnition();
        wipingIsTheLastTicks();
        parkedAtSpeedZero();
        pauseIsWaitedFor();
        pauseIsWaitedForAtEverySpeed();
        goesHomeByOne();
        parksAtAHundred();
        parksAboveAHundred();
        pauseIsByWhatHoldsThen();
        Check.end();
    }

    private static BodyRows2 wiping(int wiper, int rain) {
        BodyRows2 x = new BodyRows2();
        x.input(5, 1);
        x.rain(rain);
        x.input(4, wiper);
        return x;
    }

    private static void wiper(String when, BodyRows2 x, int place, int pause, int went) {
        Check.due(when + ": place", x.state(4), place);
        Check.due(when + ": PAUSE", x.state(5), pause);
        Check.due(when + ": WIPING", x.output(5), went);
    }

    private static void rainAnswersWhatItWas() {
        Check.sentence("RAIN (0 .. 9, at first 0): what it was");
        BodyRows2 x = new BodyRows2();
        int was = 0;
        for (int n = 9; n >= 0; n--) {
            Check.due("rain(" + n + ")", x.rain(n), was);
            Check.due("rain(" + n + ") again", x.rain(n), n);
            was = n;
        }
    }

    private static void rainOutside() {
        Check.sentence("-2 n is none");
        BodyRows2 x = wiping(1, 3);
        for (int n : Check.outside(0, 9)) {
            Check.due("rain(" + n + ")", x.rain(n), -2);
        }
        x.step(100);
        wiper("a refusal leaves RAIN as it was", x, 0, 160, 1);
        Check.due("RAIN", x.rain(0), 3);
    }

    private static void placeIsInItsRange() {
        Check.sentence("THE WIPER has a place 0 .. 99 (0: parked) and a PAUSE, both 0 at first");
        wiper("at first", new BodyRows2(), 0, 0, 0);
        BodyRows2 slow = wiping(2, 0);
        BodyRows2 fast = wiping(3, 0);
        for (int tick = 1; tick <= 200; tick++) {
            slow.step(1);
            fast.step(1);
            Check.due("slow at " + tick, slow.state(4), tick % 100);
            Check.due("fast at " + tick, fast.state(4), tick * 2 % 100);
        }
    }

    private static void speed(BodyRows2 x, String when, int speed) {
        Check.due(when + ": a tick", x.step(1), speed == 0 ? 0 : 1);
        wiper(when, x, speed, 0, speed);
        x.step(9);
        wiper(when, x, 10 * speed, 0, speed);
    }

    private static void speedByRain(int rain) {
        Check.sentence("1: by RAIN 0: 0, 1 to 7: 1, 8 and 9: 2");
        int[] speeds = {0, 1, 1, 1, 1, 1, 1, 1, 2, 2};
        speed(wiping(1, rain), "RAIN " + rain, speeds[rain]);
    }

    private static void speedBySwitch(int rain) {
        Check.sentence("WIPER 0: 0, 2: 1, 3: 2");
        speed(wiping(0, rain), "WIPER 0, RAIN " + rain, 0);
        speed(wiping(2, rain), "WIPER 2, RAIN " + rain, 1);
        speed(wiping(3, rain), "WIPER 3, RAIN " + rain, 2);
    }

    private static void noSpeedWithoutIgnition() {
        Check.sentence("Its speed: without IGNITION 0");
        for (int wiper = 0; wiper <= 3; wiper++) {
            BodyRows2 x = wiping(wiper, 9);
            x.input(5, 0);
            Check.due("no IGNITION", x.step(10), 0);
            wiper("WIPER " + wiper, x, 0, 0, 0);
        }
    }

    private static void wipingIsTheLastTicks() {
        Check.sentence("5 WIPING: by how much the wiper went in the last tick");
        BodyRows2 x = wiping(2, 0);
        Check.due("before a tick", x.output(5), 0);
        x.step(1);
        Check.due("slow", x.output(5), 1);
        Check.due("faster is told", x.input(4, 3), 0);
        Check.due("but no tick went", x.output(5), 1);
        Check.due("the last tick", x.step(3), 1);
        Check.due("fast, not the sum", x.output(5), 2);
        x.input(4, 0);
        Check.due("still the last tick's", x.output(5), 2);
        x.step(0);
        Check.due("step(0) is no tick", x.output(5), 2);
        x.step(1000);
        Check.due("parked", x.output(5), 0);
    }

    private static void parkedAtSpeedZero() {
        Check.sentence("Parked: if the speed is 0, the PAUSE is 0, and it stays");
        for (int way = 0; way < 3; way++) {
            BodyRows2 x = wiping(1, 1);
            x.step(110);
            wiper("PAUSE", x, 0, 310, 0);
            if (way == 0) {
                x.rain(0);
            } else {
                x.input(3 + way, 0);
            }
            wiper("before a tick", x, 0, 310, 0);
            x.step(1);
            wiper("at speed 0", x, 0, 0, 0);
            x.step(1000);
            wiper("it stays", x, 0, 0, 0);
        }
        BodyRows2 x = wiping(1, 1);
        x.step(110);
        x.rain(0);
        x.step(1);
        x.rain(1);
        x.step(1);
        wiper("the PAUSE is gone, so it goes on", x, 1, 0, 1);
    }

    private static void pauseIsWaitedFor() {
        Check.sentence("if there is a PAUSE, it is one less, and it stays");
        BodyRows2 x = wiping(1, 4);
        x.step(100);
        wiper("parked", x, 0, 80, 1);
        x.step(1);
        wiper("the first tick of it", x, 0, 79, 0);
        x.step(78);
        wiper("the last but one", x, 0, 1, 0);
        x.step(1);
        wiper("the last tick of it", x, 0, 0, 0);
        x.step(1);
        wiper("it goes on", x, 1, 0, 1);
        x.step(99);
        wiper("and parks again", x, 0, 80, 1);
    }

    private static void pauseIsWaitedForAtEverySpeed() {
        Check.sentence("if there is a PAUSE, it is one less, and it stays");
        BodyRows2 x = wiping(1, 4);
        x.step(100);
        x.input(4, 3);
        x.step(10);
        wiper("WIPER 3", x, 0, 70, 0);
        x.input(4, 1);
        x.rain(9);
        x.step(10);
        wiper("RAIN 9", x, 0, 60, 0);
        x.rain(1);
        x.step(60);
        wiper("RAIN 1 makes it no longer", x, 0, 0, 0);
        x.step(1);
        wiper("it goes on", x, 1, 0, 1);
    }

    private static void goesHomeByOne() {
        Check.sentence("Otherwise it goes on by its speed, or by 1, if that is 0");
        for (int kind = 4; kind <= 5; kind++) {
            BodyRows2 x = wiping(3, 0);
            x.step(1);
            Check.due("off by " + kind, x.input(kind, 0), 0);
            Check.due("a tick", x.step(1), 1);
            wiper("by 1", x, 3, 0, 1);
            x.step(96);
            wiper("before the end", x, 99, 0, 1);
            Check.due("parks", x.step(1), 0);
            wiper("parked", x, 0, 0, 1);
            Check.due("stays", x.step(1), 1);
            wiper("stays", x, 0, 0, 0);
            Check.due("stays", x.step(100), 0);
        }
        BodyRows2 x = wiping(1, 9);
        x.step(10);
        x.rain(0);
        x.step(10);
        wiper("RAIN 0 on its way", x, 30, 0, 1);
    }

    private static void parksAtAHundred() {
        Check.sentence("at 100 or more it is parked: 100");
        BodyRows2 x = wiping(2, 0);
        x.step(99);
        wiper("99", x, 99, 0, 1);
        x.step(1);
        wiper("99 and 1", x, 0, 0, 1);
        x.step(1);
        wiper("on again", x, 1, 0, 1);
        x = wiping(3, 0);
        x.step(49);
        wiper("98", x, 98, 0, 2);
        x.step(1);
        wiper("98 and 2", x, 0, 0, 2);
        x.step(1);
        wiper("on again", x, 2, 0, 2);
    }

    private static void parksAboveAHundred() {
        Check.sentence("at 100 or more it is parked: 101");
        BodyRows2 x = wiping(2, 0);
        x.step(99);
        x.input(4, 3);
        Check.due("99 and 2", x.step(1), 1);
        wiper("99 and 2", x, 0, 0, 2);
        x.step(1);
        wiper("on again from 0, not from 1", x, 2, 0, 2);
    }

    private static void pauseByRain(int rain) {
        Check.sentence("and then, if WIPER is 1 and RAIN 1 to 4, the PAUSE is 400 less 80 times RAIN");
        int[] pauses = {0, 320, 240, 160, 80, 0, 0, 0, 0, 0};
        BodyRows2 x = wiping(2, rain);
        x.step(99);
        x.input(4, 1);
        x.step(1);
        Check.due("parked with RAIN " + rain, x.state(4), 0);
        Check.due("PAUSE with RAIN " + rain, x.state(5), pauses[rain]);
        x.step(pauses[rain]);
        Check.due("PAUSE is over", x.state(5), 0);
        if (pauses[rain] > 0) {
            wiper("PAUSE is over", x, 0, 0, 0);
            x.step(1);
            wiper("it goes on", x, 1, 0, 1);
        }
    }

    private static void noPauseAtAnotherSwitch(int rain) {
        Check.sentence("if WIPER is 1");
        for (int wiper = 0; wiper <= 3; wiper++) {
            if (wiper != 1) {
                BodyRows2 x = wiping(2, rain);
                x.step(99);
                x.input(4, wiper);
                x.step(1);
                Check.due("WIPER " + wiper + ": parked", x.state(4), 0);
                Check.due("WIPER " + wiper + ": no PAUSE", x.state(5), 0);
            }
        }
    }

    private static void pauseIsByWhatHoldsThen() {
        Check.sentence("at 100 or more it is parked, and then, if WIPER is 1 and RAIN 1 to 4");
        BodyRows2 x = wiping(1, 2);
        x.step(99);
        x.rain(3);
        x.step(1);
        wiper("RAIN as it is then", x, 0, 160, 1);
        x.rain(1);
        x.step(1);
        wiper("and not as it comes to be", x, 0, 159, 0);
        x = wiping(1, 3);
        x.step(50);
        x.input(5, 0);
        x.step(50);
        wiper("without IGNITION too", x, 0, 160, 1);
        x.step(1);
        wiper("and then the speed is 0", x, 0, 0, 0);
        x = wiping(1, 3);
        x.step(50);
        x.rain(5);
        x.step(50);
        wiper("RAIN 5 on its way", x, 0, 0, 1);
    }
}
