/** Promise 4: step, its range, what it counts, and the interior light. */
public final class StepTest {
    public static void main(String[] args) {
        outside();
        least();
        greatest();
        comparedWithBefore();
        manyTicksAreSingleOnes();
        interiorUpToTheGreatest();
        interiorDownToTheLeast();
        interiorTurnsOnItsWay();
        interiorBehindACrash();
        Check.end();
    }

    /** Something in it changes with every tick. */
    private static BodyRows2 busy() {
        BodyRows2 x = new BodyRows2();
        x.input(5, 1);
        x.input(4, 3);
        x.input(8, 1);
        x.input(3, 1);
        x.window(0, 200);
        x.trailer(true);
        return x;
    }

    private static void outside() {
        Check.sentence("-2 t is not 0 .. 1000");
        BodyRows2 x = busy();
        for (int t : Check.outside(0, 1000)) {
            Check.due("step(" + t + ")", x.step(t), -2);
            Check.outputs("behind step(" + t + ")", x, 0, 0, 0, 1, 1, 0, 0, 0, 1, 1);
            Check.states("behind step(" + t + ")", x);
        }
    }

    private static void least() {
        Check.sentence("So many TICKS: t = 0");
        BodyRows2 x = busy();
        Check.due("step(0)", x.step(0), 0);
        Check.states("behind step(0)", x);
        x.step(1);
        Check.due("step(0) again", x.step(0), 0);
        Check.outputs("WIPING is the last tick's", x, 0, 0, 0, 1, 1, 2, 0, 1, 1, 1);
        Check.states("one tick in all", x, 1, 0, 0, 0, 2, 0, 0, 0, 0, 1);
    }

    private static void greatest() {
        Check.sentence("So many TICKS: t = 1000");
        BodyRows2 x = busy();
        Check.due("step(1000)", x.step(1000), 6);
        Check.outputs("behind step(1000)", x, 0, 0, 0, 0, 0, 2, 0, 100);
        Check.states("behind step(1000)", x, 200, 0, 0, 0, 0, 0, 12, 12, 0, 1000);
        x.step(999);
        Check.due("TICKS in all", x.state(9), 1999);
    }

    private static void comparedWithBefore() {
        Check.sentence("how many OUTPUTS are others than before them");
        BodyRows2 x = new BodyRows2();
        x.input(3, 1);
        Check.due("a whole period", x.step(80), 0);
        Check.due("half a period", x.step(40), 2);
        x.input(8, 1);
        Check.due("half a period, and INTERIOR", x.step(40), 3);
        x.input(8, 0);
        Check.due("half a period, and INTERIOR back", x.step(40), 3);
        Check.outputs("INTERIOR is 0 again", x);
        x.trailer(true);
        Check.due("with a trailer", x.step(40), 4);
    }

    private static void manyTicksAreSingleOnes() {
        Check.sentence("So many TICKS");
        BodyRows2 x = busy();
        BodyRows2 y = busy();
        x.bulb(4, false);
        y.bulb(4, false);
        x.step(333);
        for (int n = 0; n < 333; n++) {
            y.step(1);
        }
        for (int i = 0; i < 10; i++) {
            Check.due("output(" + i + ")", x.output(i), y.output(i));
            Check.due("state(" + i + ")", x.state(i), y.state(i));
        }
    }

    private static BodyRows2 open() {
        BodyRows2 x = new BodyRows2();
        Check.due("DOOR", x.input(8, 1), 0);
        return x;
    }

    private static void interiorUpToTheGreatest() {
        Check.sentence("INTERIOR goes by 1 to 100 with DOOR");
        BodyRows2 x = open();
        Check.due("before a tick", x.output(7), 0);
        for (int tick = 1; tick <= 100; tick++) {
            Check.due("tick " + tick, x.step(1), 1);
            Check.due("INTERIOR", x.output(7), tick);
        }
        Check.due("stays at 100", x.step(1), 0);
        Check.due("stays at 100", x.step(1000), 0);
        Check.due("INTERIOR", x.output(7), 100);
    }

    private static void interiorDownToTheLeast() {
        Check.sentence("otherwise by 1 to 0");
        BodyRows2 x = open();
        x.step(100);
        Check.due("DOOR shut", x.input(8, 0), 0);
        Check.due("before a tick", x.output(7), 100);
        for (int tick = 1; tick <= 100; tick++) {
            Check.due("tick " + tick, x.step(1), 1);
            Check.due("INTERIOR", x.output(7), 100 - tick);
        }
        Check.due("stays at 0", x.step(1), 0);
        Check.due("stays at 0", x.step(1000), 0);
        Check.due("INTERIOR", x.output(7), 0);
    }

    private static void interiorTurnsOnItsWay() {
        Check.sentence("INTERIOR goes by 1 to 100 with DOOR .., otherwise by 1 to 0");
        BodyRows2 x = open();
        x.step(1);
        x.input(8, 0);
        x.step(1);
        Check.due("back from 1", x.output(7), 0);
        x.input(8, 1);
        x.step(99);
        x.input(8, 0);
        x.step(1);
        Check.due("back from 99", x.output(7), 98);
        x.input(8, 1);
        x.step(2);
        Check.due("and to the end", x.output(7), 100);
    }

    private static void interiorBehindACrash() {
        Check.sentence("INTERIOR goes by 1 to 100 with DOOR or behind a CRASH");
        BodyRows2 x = new BodyRows2();
        x.crash();
        Check.due("before a tick", x.output(7), 0);
        x.step(99);
        Check.due("99 ticks", x.output(7), 99);
        x.step(2);
        Check.due("no more than 100", x.output(7), 100);
        x.input(8, 1);
        x.input(8, 0);
        x.step(50);
        Check.due("DOOR shut behind a CRASH", x.output(7), 100);
    }
}
