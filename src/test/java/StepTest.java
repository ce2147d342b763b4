/** Promise 4: step, its bounds, and the interior light. */
public final class StepTest {
    public static void main(String[] args) {
        bounds();
        interiorFades();
        noTickChangesNothing();
        outputsAreComparedWithThoseBefore();
        Check.end();
    }

    private static void bounds() {
        BodyRows2 x = new BodyRows2();
        int[] outside = {-1, 1001, Integer.MIN_VALUE, Integer.MAX_VALUE};
        for (int t : outside) {
            Check.due("step(" + t + ")", x.step(t), -2);
            Check.due("ticks after step(" + t + ")", x.state(9), 0);
        }
        Check.due("step(0)", x.step(0), 0);
        Check.due("step(1000)", x.step(1000), 0);
        Check.due("step(7)", x.step(7), 0);
        Check.due("ticks", x.state(9), 1007);
    }

    private static void interiorFades() {
        BodyRows2 x = new BodyRows2();
        Check.due("DOOR", x.input(8, 1), 0);
        Check.due("INTERIOR before a tick", x.output(7), 0);
        Check.due("a tick", x.step(1), 1);
        Check.due("INTERIOR", x.output(7), 1);
        x.step(98);
        Check.due("INTERIOR", x.output(7), 99);
        Check.due("to 100", x.step(1), 1);
        Check.due("stays at 100", x.step(1), 0);
        Check.due("INTERIOR", x.output(7), 100);
        Check.due("DOOR shut", x.input(8, 0), 0);
        Check.due("a tick", x.step(1), 1);
        Check.due("INTERIOR", x.output(7), 99);
        x.step(98);
        Check.due("INTERIOR", x.output(7), 1);
        Check.due("to 0", x.step(1), 1);
        Check.due("stays at 0", x.step(1), 0);
        Check.due("INTERIOR", x.output(7), 0);
    }

    private static void noTickChangesNothing() {
        BodyRows2 x = new BodyRows2();
        x.input(5, 1);
        x.input(4, 3);
        x.step(1);
        Check.due("step(0)", x.step(0), 0);
        Check.due("WIPING is the last tick's", x.output(5), 2);
    }

    private static void outputsAreComparedWithThoseBefore() {
        BodyRows2 x = new BodyRows2();
        x.input(3, 1);
        Check.due("a whole period", x.step(80), 0);
        Check.due("half a period", x.step(40), 2);
        x.input(8, 1);
        Check.due("half a period, and INTERIOR", x.step(40), 3);
        x.input(8, 0);
        Check.due("INTERIOR there and back is counted by its end", x.step(40), 3);
        Check.outputs("INTERIOR is 0 again", x);
    }
}
