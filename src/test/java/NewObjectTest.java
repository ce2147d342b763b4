/** Promise 1: a new object, and what the terms say of "at first". */
public final class NewObjectTest {
    public static void main(String[] args) {
        allOff();
        allBulbsAreWhole();
        noLoads();
        inputsAreZero();
        brightIsNot();
        sidesDoNotBlink();
        nothingHappensByItself();
        windowsAtFirst();
        keysRememberNothing();
        rainAtFirst();
        noTrailerAndNoCrash();
        objectsAreApart();
        Check.end();
    }

    private static void allOff() {
        Check.sentence("All off");
        BodyRows2 x = new BodyRows2();
        Check.outputs("new", x);
        Check.states("new", x);
    }

    private static void allBulbsAreWhole() {
        Check.sentence("all bulbs whole");
        int[] substitutes = {2, 1, 4, 3, 1, 2};
        for (int i = 0; i < 6; i++) {
            BodyRows2 x = new BodyRows2();
            Check.due("bulb(" + i + ", false)", x.bulb(i, false), substitutes[i]);
        }
        BodyRows2 x = new BodyRows2();
        x.input(3, 1);
        x.step(39);
        Check.outputs("the turn bulbs are whole", x, 0, 0, 0, 1, 1);
    }

    private static void noLoads() {
        Check.sentence("no loads");
        BodyRows2 x = new BodyRows2();
        for (int load = 0; load <= 13; load++) {
            Check.due("isOn(" + load + ")", x.isOn(load), -1);
        }
        Check.due("none is off", x.shed(12000), 0);
        Check.due("the first load", x.load(0, false), 1);
    }

    private static void inputsAreZero() {
        Check.sentence("All are 0 at first");
        BodyRows2 x = new BodyRows2();
        for (int kind = 0; kind < 9; kind++) {
            Check.due("input(" + kind + ", 0)", x.input(kind, 0), 0);
        }
        x = new BodyRows2();
        Check.due("no IGNITION: LIGHT low", x.input(0, 2), 1);
        Check.due("no BEAM: IGNITION", x.input(5, 1), 1);
        x.rain(9);
        Check.due("no WIPER, no DOOR", x.step(100), 0);
        x = new BodyRows2();
        Check.due("no LIGHT: IGNITION", x.input(5, 1), 0);
        Check.due("no LIGHT: BEAM", x.input(6, 1), 0);
        Check.due("no LIGHT: BRIGHT 0", x.input(1, 0), 0);
    }

    private static void brightIsNot() {
        Check.sentence("but BRIGHT 1000. DARK (not at first)");
        BodyRows2 x = new BodyRows2();
        Check.due("DARK", x.state(8), 0);
        Check.due("LIGHT by DARK", x.input(0, 3), 0);
        Check.due("and IGNITION", x.input(5, 1), 0);
        Check.due("DARK is still not", x.state(8), 0);
    }

    private static void sidesDoNotBlink() {
        Check.sentence("All are 0 at first");
        for (int kind = 0; kind < 9; kind++) {
            if (kind != 2 && kind != 3) {
                BodyRows2 x = new BodyRows2();
                x.input(kind, 1);
                Check.due("LEFT behind input(" + kind + ", 1)", x.output(3), 0);
                Check.due("RIGHT behind input(" + kind + ", 1)", x.output(4), 0);
            }
        }
    }

    private static void nothingHappensByItself() {
        Check.sentence("All off");
        BodyRows2 x = new BodyRows2();
        Check.due("step(1000)", x.step(1000), 0);
        Check.outputs("after 1000 ticks", x);
        Check.states("after 1000 ticks", x, 0, 0, 0, 0, 0, 0, 0, 0, 0, 1000);
    }

    private static void windowsAtFirst() {
        Check.sentence("each at a place 0 (open) to 200 (closed; 0 at first) with a WISH (0 at first)");
        for (int i = 0; i < 4; i++) {
            BodyRows2 x = new BodyRows2();
            Check.due("place", x.state(i), 0);
            Check.due("WISH", x.memory(0, i, 0), 0);
            Check.due("not LEARNED", x.window(i, 200), 200);
        }
    }

    private static void keysRememberNothing() {
        Check.sentence("KEYS 0 to 3 remember what = 0 to 4 (..), -1 at first");
        BodyRows2 x = new BodyRows2();
        for (int key = 0; key <= 3; key++) {
            for (int what = 0; what <= 4; what++) {
                Check.due("memory(" + key + ", " + what + ", 1)", x.memory(key, what, 1), -1);
            }
        }
        Check.states("nothing was given back", x);
        Check.outputs("nothing was given back", x);
    }

    private static void rainAtFirst() {
        Check.sentence("RAIN (0 .. 9, at first 0)");
        Check.due("rain(9)", new BodyRows2().rain(9), 0);
    }

    private static void noTrailerAndNoCrash() {
        Check.sentence("All off");
        BodyRows2 x = new BodyRows2();
        x.input(3, 1);
        Check.due("there is no trailer", x.trailer(false), 0);
        Check.due("there is one now", x.trailer(true), 2);
        Check.due("there was no crash", new BodyRows2().crash(), 3);
    }

    private static void objectsAreApart() {
        Check.sentence("A new object");
        BodyRows2 x = new BodyRows2();
        BodyRows2 y = new BodyRows2();
        x.load(1, false);
        x.input(7, 1);
        x.window(0, 9);
        x.memory(0, 0, 0);
        x.crash();
        x.step(5);
        Check.outputs("another object", y);
        Check.states("another object", y);
        Check.due("another object: isOn(1)", y.isOn(1), -1);
        Check.due("another object: memory(0, 0, 1)", y.memory(0, 0, 1), -1);
        Check.due("another object: crash()", y.crash(), 3);
    }
}
