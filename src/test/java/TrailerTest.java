/** Promise 15: the trailer. */
public final class TrailerTest {
    public static void main(String[] args) {
        asLeftAndRight();
        otherwiseZero();
        noneIsAnother();
        howManyAreOthers();
        theSidesGoOn();
        Check.end();
    }

    private static BodyRows2 hazard() {
        BodyRows2 x = new BodyRows2();
        x.input(3, 1);
        return x;
    }

    private static void asLeftAndRight() {
        Check.sentence("8, 9: as LEFT, RIGHT while there is a trailer");
        BodyRows2 x = new BodyRows2();
        x.trailer(true);
        Check.due("TURN left", x.input(2, 1), 2);
        Check.outputs("left", x, 0, 0, 0, 1, 0, 0, 0, 0, 1, 0);
        Check.due("TURN right", x.input(2, 2), 4);
        Check.outputs("right", x, 0, 0, 0, 0, 1, 0, 0, 0, 0, 1);
        Check.due("HAZARD", x.input(3, 1), 2);
        Check.outputs("both", x, 0, 0, 0, 1, 1, 0, 0, 0, 1, 1);
        x.bulb(4, false);
        for (int tick = 1; tick <= 100; tick++) {
            x.step(1);
            Check.due("8 at " + tick, x.output(8), tick % 40 < 20 ? 1 : 0);
            Check.due("9 at " + tick, x.output(9), tick % 80 < 40 ? 1 : 0);
        }
    }

    private static void otherwiseZero() {
        Check.sentence("otherwise 0");
        BodyRows2 x = hazard();
        Check.outputs("never a trailer", x, 0, 0, 0, 1, 1);
        x.trailer(true);
        x.trailer(false);
        Check.outputs("no trailer any more", x, 0, 0, 0, 1, 1);
        x.step(80);
        Check.outputs("nor later", x, 0, 0, 0, 1, 1);
    }

    private static void noneIsAnother() {
        Check.sentence("how many OUTPUTS are others then: none");
        BodyRows2 x = new BodyRows2();
        Check.due("no side BLINKS", x.trailer(true), 0);
        Check.due("none any more", x.trailer(false), 0);
        x = hazard();
        Check.due("none, as before", x.trailer(false), 0);
        x.trailer(true);
        Check.due("one, as before", x.trailer(true), 0);
        x.step(40);
        Check.due("none in the dim half", x.trailer(false), 0);
        Check.due("one in the dim half", x.trailer(true), 0);
    }

    private static void howManyAreOthers() {
        Check.sentence("how many OUTPUTS are others then");
        BodyRows2 x = hazard();
        Check.due("two on", x.trailer(true), 2);
        Check.due("two off", x.trailer(false), 2);
        x = new BodyRows2();
        x.input(2, 2);
        Check.due("one on", x.trailer(true), 1);
        Check.outputs("right", x, 0, 0, 0, 0, 1, 0, 0, 0, 0, 1);
        Check.due("one off", x.trailer(false), 1);
    }

    private static void theSidesGoOn() {
        Check.sentence("There is a trailer, or not");
        BodyRows2 x = hazard();
        x.step(79);
        x.trailer(true);
        x.step(1);
        Check.states("the sides go on", x, 0, 0, 0, 0, 0, 0, 1, 1, 0, 80);
        Check.outputs("all four", x, 0, 0, 0, 1, 1, 0, 0, 0, 1, 1);
    }
}
