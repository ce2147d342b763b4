/** Promise 1: a new object. */
public final class NewObjectTest {
    public static void main(String[] args) {
        BodyRows2 x = new BodyRows2();
        Check.outputs("new", x);
        for (int what = 0; what <= 9; what++) {
            Check.due("new: state(" + what + ")", x.state(what), 0);
        }
        for (int load = 0; load <= 13; load++) {
            Check.due("new: isOn(" + load + ")", x.isOn(load), -1);
        }
        for (int key = 0; key <= 3; key++) {
            for (int what = 0; what <= 4; what++) {
                Check.due("new: memory(" + key + ", " + what + ", 1)", x.memory(key, what, 1), -1);
            }
        }
        Check.due("new: rain", x.rain(0), 0);
        allBulbsAreWhole();
        nothingHappensByItself();
        objectsAreApart();
        Check.end();
    }

    private static void allBulbsAreWhole() {
        int[] substitutes = {2, 1, 4, 3, 1, 2};
        for (int i = 0; i < 6; i++) {
            BodyRows2 x = new BodyRows2();
            Check.due("new: bulb(" + i + ", false)", x.bulb(i, false), substitutes[i]);
        }
        BodyRows2 x = new BodyRows2();
        x.input(3, 1);
        x.step(39);
        Check.due("new: the turn bulbs are whole, left", x.output(3), 1);
        Check.due("new: the turn bulbs are whole, right", x.output(4), 1);
    }

    private static void nothingHappensByItself() {
        BodyRows2 x = new BodyRows2();
        Check.due("new: step(1000)", x.step(1000), 0);
        Check.outputs("after 1000 ticks", x);
        for (int what = 0; what <= 8; what++) {
            Check.due("after 1000 ticks: state(" + what + ")", x.state(what), 0);
        }
        Check.due("new: LIGHT by DARK without DARK", x.input(0, 3), 0);
        Check.due("new: there is no trailer", x.trailer(false), 0);
    }

    private static void objectsAreApart() {
        BodyRows2 x = new BodyRows2();
        BodyRows2 y = new BodyRows2();
        x.load(1, false);
        x.input(7, 1);
        x.window(0, 9);
        x.memory(0, 0, 0);
        x.crash();
        x.step(5);
        Check.outputs("another object", y);
        Check.due("another object: isOn(1)", y.isOn(1), -1);
        Check.due("another object: memory(0, 0, 1)", y.memory(0, 0, 1), -1);
        Check.due("another object: crash()", y.crash(), 3);
    }
}
