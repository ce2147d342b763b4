/** Promise 15: the trailer. */
public final class TrailerTest {
    public static void main(String[] args) {
        BodyRows2 x = new BodyRows2();
        Check.due("trailer with no side", x.trailer(true), 0);
        Check.due("TURN left", x.input(2, 1), 2);
        Check.outputs("left", x, 0, 0, 0, 1, 0, 0, 0, 0, 1, 0);
        Check.due("TURN right", x.input(2, 2), 4);
        Check.outputs("right", x, 0, 0, 0, 0, 1, 0, 0, 0, 0, 1);
        Check.due("HAZARD", x.input(3, 1), 2);
        Check.outputs("both", x, 0, 0, 0, 1, 1, 0, 0, 0, 1, 1);
        Check.due("trailer again", x.trailer(true), 0);
        Check.due("trailer off", x.trailer(false), 2);
        Check.outputs("no trailer", x, 0, 0, 0, 1, 1);
        Check.due("trailer off again", x.trailer(false), 0);
        Check.due("trailer on", x.trailer(true), 2);
        Check.due("the dim half", x.step(40), 4);
        Check.outputs("dim", x);
        Check.due("trailer off in the dim half", x.trailer(false), 0);
        x.step(40);
        Check.outputs("bright", x, 0, 0, 0, 1, 1);
        Check.due("trailer on in the bright half", x.trailer(true), 2);
        Check.due("the sides go on", x.state(6), 1);
        Check.end();
    }
}
