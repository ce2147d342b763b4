/** Promise 10: the bulbs and their substitutes. */
public final class BulbsTest {
    private static final int[] SUBSTITUTES = {1, 0, 3, 2, 0, 1};

    public static void main(String[] args) {
        int[] unknown = {-1, 6, 7, Integer.MIN_VALUE, Integer.MAX_VALUE};
        BodyRows2 x = new BodyRows2();
        for (int i : unknown) {
            Check.due("bulb(" + i + ", true)", x.bulb(i, true), -1);
            Check.due("bulb(" + i + ", false)", x.bulb(i, false), -1);
        }
        for (int i = 0; i < 6; i++) {
            Check.due("a whole bulb " + i, new BodyRows2().bulb(i, true), 0);
            for (int other = 0; other < 6; other++) {
                if (other != i) {
                    withAnotherOut(i, other);
                }
            }
        }
        bulbsAreNoOutputs();
        Check.end();
    }

    private static void withAnotherOut(int i, int other) {
        BodyRows2 x = new BodyRows2();
        x.bulb(other, false);
        int due = other == SUBSTITUTES[i] ? 0 : SUBSTITUTES[i] + 1;
        Check.due("bulb " + i + " out with " + other + " out", x.bulb(i, false), due);
        Check.due("bulb " + i + " out again", x.bulb(i, false), due);
        x.bulb(other, true);
        Check.due("bulb " + i + " out, " + other + " whole", x.bulb(i, false), SUBSTITUTES[i] + 1);
        Check.due("bulb " + i + " whole", x.bulb(i, true), 0);
    }

    private static void bulbsAreNoOutputs() {
        BodyRows2 x = new BodyRows2();
        x.input(0, 2);
        x.input(5, 1);
        x.input(3, 1);
        for (int i = 0; i < 6; i++) {
            x.bulb(i, false);
        }
        Check.outputs("all out", x, 1, 1, 0, 1, 1);
    }
}
