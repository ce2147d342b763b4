/** Promise 3: the outputs that follow from switches, and those that there are not. */
public final class OutputTest {
    public static void main(String[] args) {
        noSuchOutput();
        for (int light = 0; light <= 3; light++) {
            for (int dark = 0; dark <= 1; dark++) {
                parking(light, dark);
                low(light, dark);
                high(light, dark);
            }
        }
        horn();
        lightsAreAtOnce();
        leftAndRight();
        interiorIsInItsRange();
        notToldIsZero();
        Check.end();
    }

    private static void noSuchOutput() {
        Check.sentence("IndexOutOfBoundsException when there is none");
        BodyRows2 x = new BodyRows2();
        x.input(7, 1);
        for (int i : Check.outside(0, 9)) {
            Check.holds("output(" + i + ") throws", throwsIt(x, i));
        }
        for (int i = 0; i <= 9; i++) {
            Check.holds("output(" + i + ") does not throw", !throwsIt(x, i));
        }
        Check.outputs("behind the throws", x, 0, 0, 0, 0, 0, 0, 1);
        Check.states("behind the throws", x);
    }

    private static boolean throwsIt(BodyRows2 x, int i) {
        try {
            x.output(i);
            return false;
        } catch (IndexOutOfBoundsException e) {
            // The machine's own exception for an array is a class below the one that is due.
            return e.getClass() == IndexOutOfBoundsException.class;
        }
    }

    private static BodyRows2 made(int light, int dark, int ignition, int beam) {
        BodyRows2 x = new BodyRows2();
        x.input(1, dark == 1 ? 0 : 1000);
        x.input(5, ignition);
        x.input(6, beam);
        x.input(0, light);
        return x;
    }

    private static String told(int light, int dark) {
        return "LIGHT " + light + (dark == 1 ? " with DARK" : "");
    }

    private static void parking(int light, int dark) {
        Check.sentence("0 PARKING: 1 if LIGHT is 1 or 2, or 3 with DARK, or there was a CRASH");
        int due = light == 1 || light == 2 || light == 3 && dark == 1 ? 1 : 0;
        for (int ignition = 0; ignition <= 1; ignition++) {
            BodyRows2 x = made(light, dark, ignition, 0);
            Check.due(told(light, dark), x.output(0), due);
            x.crash();
            Check.due(told(light, dark) + " behind a CRASH", x.output(0), 1);
        }
    }

    private static void low(int light, int dark) {
        Check.sentence("1 LOW: 1 with IGNITION, if LIGHT is 2, or 3 with DARK");
        int due = light == 2 || light == 3 && dark == 1 ? 1 : 0;
        Check.due(told(light, dark) + " without IGNITION", made(light, dark, 0, 0).output(1), 0);
        BodyRows2 x = made(light, dark, 1, 0);
        Check.due(told(light, dark), x.output(1), due);
        x.crash();
        Check.due(told(light, dark) + " behind a CRASH", x.output(1), due);
    }

    private static void high(int light, int dark) {
        Check.sentence("2 HIGH: 1 if LOW and BEAM are");
        int due = light == 2 || light == 3 && dark == 1 ? 1 : 0;
        Check.due(told(light, dark) + " with BEAM", made(light, dark, 1, 1).output(2), due);
        Check.due(told(light, dark) + " without BEAM", made(light, dark, 1, 0).output(2), 0);
        Check.due(told(light, dark) + " with BEAM, no IGNITION", made(light, dark, 0, 1).output(2), 0);
    }

    private static void horn() {
        Check.sentence("6 HORN: the input");
        BodyRows2 x = new BodyRows2();
        Check.due("HORN", x.input(7, 1), 1);
        Check.outputs("HORN", x, 0, 0, 0, 0, 0, 0, 1);
        Check.due("it stays", x.step(1000), 0);
        Check.due("HORN off", x.input(7, 0), 1);
        Check.outputs("HORN off", x);
    }

    private static void lightsAreAtOnce() {
        Check.sentence("1 LOW: 1 with IGNITION, if LIGHT is 2, or 3 with DARK");
        BodyRows2 x = made(3, 1, 1, 1);
        Check.outputs("by DARK", x, 1, 1, 1);
        Check.due("it grows light", x.input(1, 401), 3);
        Check.due("it grows dark", x.input(1, 199), 3);
        Check.due("IGNITION off", x.input(5, 0), 2);
        Check.outputs("IGNITION off", x, 1);
        Check.due("IGNITION on", x.input(5, 1), 2);
        Check.due("BEAM off", x.input(6, 0), 1);
        Check.outputs("BEAM off", x, 1, 1);
    }

    private static void leftAndRight() {
        Check.sentence("3, 4 LEFT, RIGHT: 1 if that side BLINKS and is in its bright half");
        BodyRows2 x = new BodyRows2();
        Check.outputs("none BLINKS", x);
        x.input(2, 1);
        Check.outputs("left BLINKS", x, 0, 0, 0, 1, 0);
        x.step(40);
        Check.outputs("left in its dim half", x);
        x.input(2, 2);
        Check.outputs("right BLINKS", x, 0, 0, 0, 0, 1);
        x.step(40);
        Check.outputs("right in its dim half", x);
        x.input(3, 1);
        Check.outputs("left begins while right is dim", x, 0, 0, 0, 1, 0);
        x.step(40);
        Check.outputs("right is bright while left is dim", x, 0, 0, 0, 0, 1);
    }

    private static void interiorIsInItsRange() {
        Check.sentence("7 INTERIOR: 0 .. 100, 0 at first");
        BodyRows2 x = new BodyRows2();
        Check.due("at first", x.output(7), 0);
        x.step(1000);
        Check.due("no less than 0", x.output(7), 0);
        x.input(8, 1);
        x.step(1000);
        Check.due("no more than 100", x.output(7), 100);
        x.crash();
        x.step(1000);
        Check.due("with DOOR and behind a CRASH", x.output(7), 100);
    }

    private static void notToldIsZero() {
        Check.sentence("(All that are not told are 0.)");
        int[] quiet = {1, 4, 5, 6, 8};
        for (int kind : quiet) {
            BodyRows2 x = new BodyRows2();
            Check.due("input(" + kind + ", 1)", x.input(kind, 1), 0);
            Check.outputs("input(" + kind + ", 1)", x);
        }
        BodyRows2 x = new BodyRows2();
        x.rain(9);
        x.load(9, false);
        x.learn(0);
        x.window(0, 200);
        x.bulb(0, false);
        x.bulb(4, false);
        x.trailer(true);
        x.memory(0, 0, 0);
        Check.due("a tick", x.step(1), 0);
        Check.outputs("no call but input and crash tells a light", x);
    }
}
