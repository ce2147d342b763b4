/** Promise 10: the bulbs and their substitutes. */
public final class BulbsTest {
    private static final int[] SUBSTITUTES = {1, 0, 3, 2, 0, 1};

    public static void main(String[] args) {
        noSuchBulb();
        for (int i = 0; i < 6; i++) {
            wholeAnswersZero(i);
            substituteIsWhole(i);
            substituteIsOut(i);
            othersDoNotMatter(i);
        }
        bulbsAreNoLights();
        Check.end();
    }

    private static void noSuchBulb() {
        Check.sentence("-1 there is no bulb");
        BodyRows2 x = new BodyRows2();
        x.input(3, 1);
        for (int i : Check.outside(0, 5)) {
            Check.due("bulb(" + i + ", true)", x.bulb(i, true), -1);
            Check.due("bulb(" + i + ", false)", x.bulb(i, false), -1);
        }
        x.step(39);
        Check.outputs("refusals leave the turn bulbs whole", x, 0, 0, 0, 1, 1);
        Check.due("and bulb 0", x.bulb(4, false), 1);
        Check.due("and bulb 1", x.bulb(5, false), 2);
        Check.due("and bulb 3", x.bulb(2, false), 4);
    }

    private static void wholeAnswersZero(int i) {
        Check.sentence("if it is out, ..; otherwise 0");
        BodyRows2 x = new BodyRows2();
        Check.due("bulb " + i + " whole", x.bulb(i, true), 0);
        x.bulb(i, false);
        Check.due("bulb " + i + " whole again", x.bulb(i, true), 0);
        x.bulb(SUBSTITUTES[i], false);
        Check.due("bulb " + i + " whole, its substitute out", x.bulb(i, true), 0);
    }

    private static void substituteIsWhole(int i) {
        Check.sentence("the number of its substitute (0 and 1 are each other's, 2 and 3, of 4 and 5: 0 and 1) and 1 more");
        int[] due = {2, 1, 4, 3, 1, 2};
        BodyRows2 x = new BodyRows2();
        Check.due("bulb " + i + " out", x.bulb(i, false), due[i]);
        Check.due("bulb " + i + " out again", x.bulb(i, false), due[i]);
    }

    private static void substituteIsOut(int i) {
        Check.sentence("if that is whole; otherwise 0");
        BodyRows2 x = new BodyRows2();
        x.bulb(SUBSTITUTES[i], false);
        Check.due("bulb " + i + " out, its substitute out", x.bulb(i, false), 0);
        Check.due("bulb " + i + " out again", x.bulb(i, false), 0);
        x.bulb(SUBSTITUTES[i], true);
        Check.due("bulb " + i + " out, its substitute whole again", x.bulb(i, false), SUBSTITUTES[i] + 1);
    }

    private static void othersDoNotMatter(int i) {
        Check.sentence("if that is whole");
        BodyRows2 x = new BodyRows2();
        for (int other = 0; other < 6; other++) {
            if (other != i && other != SUBSTITUTES[i]) {
                x.bulb(other, false);
            }
        }
        Check.due("bulb " + i + " out, the others out", x.bulb(i, false), SUBSTITUTES[i] + 1);
        for (int other = 0; other < 6; other++) {
            x.bulb(other, false);
        }
        Check.due("bulb " + i + " out, all out", x.bulb(i, false), 0);
    }

    private static void bulbsAreNoLights() {
        Check.sentence("0 PARKING: 1 if LIGHT is 1 or 2");
        BodyRows2 x = new BodyRows2();
        x.input(0, 2);
        x.input(5, 1);
        x.input(3, 1);
        for (int i = 0; i < 6; i++) {
            x.bulb(i, false);
        }
        Check.outputs("all out", x, 1, 1, 0, 1, 1);
    }
}
