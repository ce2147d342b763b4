/** Promises 4 and 11: the wiper and the rain. */
public final class WiperTest {
    public static void main(String[] args) {
        rainAnswersWhatItWas();
        speeds();
        noIgnitionNoStart();
        goesHomeBySelf();
        fastParksAboveTheEnd();
        for (int rain = 0; rain <= 9; rain++) {
            pauseByRain(rain);
        }
        pauseEndsWhenStopped();
        pauseIsWaitedForAtEverySpeed();
        pauseIsByWhatHoldsWhenItParks();
        Check.end();
    }

    private static BodyRows2 wiping(int wiper, int rain) {
        BodyRows2 x = new BodyRows2();
        x.input(5, 1);
        x.rain(rain);
        x.input(4, wiper);
        return x;
    }

    private static void rainAnswersWhatItWas() {
        BodyRows2 x = new BodyRows2();
        Check.due("rain(3)", x.rain(3), 0);
        int[] outside = {-1, 10, Integer.MIN_VALUE, Integer.MAX_VALUE};
        for (int n : outside) {
            Check.due("rain(" + n + ")", x.rain(n), -2);
        }
        Check.due("rain(9)", x.rain(9), 3);
        Check.due("rain(0)", x.rain(0), 9);
        Check.due("rain(0)", x.rain(0), 0);
    }

    private static void speeds() {
        int[] byRain = {0, 1, 1, 1, 1, 1, 1, 1, 2, 2};
        int[] bySwitch = {0, 0, 1, 2};
        for (int rain = 0; rain <= 9; rain++) {
            for (int wiper = 0; wiper <= 3; wiper++) {
                int speed = wiper == 1 ? byRain[rain] : bySwitch[wiper];
                BodyRows2 x = wiping(wiper, rain);
                String when = "WIPER " + wiper + ", RAIN " + rain;
                Check.due(when + ": before a tick", x.output(5), 0);
                Check.due(when + ": a tick", x.step(1), speed == 0 ? 0 : 1);
                Check.due(when + ": WIPING", x.output(5), speed);
                x.step(9);
                Check.due(when + ": place", x.state(4), 10 * speed);
            }
        }
    }

    private static void noIgnitionNoStart() {
        for (int wiper = 0; wiper <= 3; wiper++) {
            BodyRows2 x = wiping(wiper, 9);
            x.input(5, 0);
            Check.due("no IGNITION", x.step(10), 0);
            Check.due("place", x.state(4), 0);
        }
    }

    private static void goesHomeBySelf() {
        for (int kind = 4; kind <= 5; kind++) {
            BodyRows2 x = wiping(3, 0);
            x.step(20);
            Check.due("fast", x.state(4), 40);
            Check.due("off by " + kind, x.input(kind, 0), 0);
            Check.due("a tick", x.step(1), 1);
            Check.due("WIPING", x.output(5), 1);
            x.step(58);
            Check.due("before the end", x.state(4), 99);
            Check.due("parks", x.step(1), 0);
            Check.due("place", x.state(4), 0);
            Check.due("WIPING in the tick that parked it", x.output(5), 1);
            Check.due("stays", x.step(1), 1);
            Check.due("WIPING", x.output(5), 0);
            Check.due("stays", x.step(100), 0);
        }
    }

    private static void fastParksAboveTheEnd() {
        BodyRows2 x = wiping(2, 0);
        x.step(99);
        Check.due("place", x.state(4), 99);
        x.input(4, 3);
        Check.due("to 101", x.step(1), 1);
        Check.due("parked", x.state(4), 0);
        Check.due("it went by its speed", x.output(5), 2);
        Check.due("no PAUSE", x.state(5), 0);
        x.step(1);
        Check.due("goes on", x.state(4), 2);
    }

    private static void pauseByRain(int rain) {
        BodyRows2 x = wiping(1, rain);
        int way = rain == 0 ? 0 : rain < 8 ? 100 : 50;
        int pause = rain >= 1 && rain <= 4 ? 400 - 80 * rain : 0;
        String when = "RAIN " + rain;
        x.step(way);
        Check.due(when + ": parked", x.state(4), 0);
        Check.due(when + ": PAUSE", x.state(5), pause);
        if (pause > 0) {
            x.step(1);
            Check.due(when + ": one less", x.state(5), pause - 1);
            Check.due(when + ": WIPING", x.output(5), 0);
            x.step(pause - 1);
            Check.due(when + ": PAUSE is over", x.state(5), 0);
            Check.due(when + ": still parked", x.state(4), 0);
            x.step(1);
            Check.due(when + ": goes on", x.state(4), 1);
        }
    }

    private static void pauseEndsWhenStopped() {
        for (int way = 0; way < 3; way++) {
            BodyRows2 x = wiping(1, 1);
            x.step(110);
            Check.due("PAUSE", x.state(5), 310);
            if (way == 0) {
                x.rain(0);
            } else {
                x.input(3 + way, 0);
            }
            Check.due("PAUSE before a tick", x.state(5), 310);
            x.step(1);
            Check.due("PAUSE at speed 0", x.state(5), 0);
            Check.due("place", x.state(4), 0);
        }
    }

    private static void pauseIsWaitedForAtEverySpeed() {
        BodyRows2 x = wiping(1, 4);
        x.step(100);
        x.input(4, 3);
        x.step(10);
        Check.due("PAUSE goes on", x.state(5), 70);
        Check.due("parked", x.state(4), 0);
        x.rain(9);
        x.step(70);
        Check.due("still parked", x.state(4), 0);
        x.step(1);
        Check.due("goes on", x.state(4), 2);
    }

    private static void pauseIsByWhatHoldsWhenItParks() {
        BodyRows2 x = wiping(2, 2);
        x.step(100);
        Check.due("no PAUSE at slow", x.state(5), 0);
        x.step(50);
        x.input(4, 1);
        x.rain(3);
        x.step(50);
        Check.due("PAUSE by RAIN", x.state(5), 160);
        x.step(200);
        x.input(5, 0);
        x.step(60);
        Check.due("parked without IGNITION", x.state(5), 160);
        x.step(1);
        Check.due("and then the speed is 0", x.state(5), 0);
        x = wiping(1, 3);
        x.step(50);
        x.rain(0);
        x.step(50);
        Check.due("parked without RAIN", x.state(4), 0);
        Check.due("no PAUSE without RAIN", x.state(5), 0);
    }
}
