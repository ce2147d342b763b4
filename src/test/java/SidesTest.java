/** Promises 2 to 4: the turn signs. */
public final class SidesTest {
    public static void main(String[] args) {
        for (int side = 0; side < 2; side++) {
            brightHalf(side);
            blinksOut(side);
            endsOnlyWithAPeriod(side);
            brokenBulbIsFaster(side);
            bulbBreaksOnTheWay(side);
            wantedGoesOn(side);
            otherSideEndsAtOnce(side);
            toldAnewEndsTheOther(side);
            wantedAgainGoesOn(side);
        }
        hazardWantsBoth();
        hazardKeepsTheOther();
        noTurnEndsNothing();
        anyInputButNoOtherEnds();
        Check.end();
    }

    private static void brightHalf(int side) {
        BodyRows2 x = new BodyRows2();
        Check.due("TURN", x.input(2, side + 1), 1);
        Check.due("that side", x.output(3 + side), 1);
        Check.due("the other side", x.output(4 - side), 0);
        for (int tick = 1; tick <= 160; tick++) {
            x.step(1);
            Check.due("side " + side + " at " + tick, x.output(3 + side), tick % 80 < 40 ? 1 : 0);
            Check.due("COUNT at " + tick, x.state(6 + side), tick / 80);
        }
        Check.due("the other COUNT", x.state(7 - side), 0);
    }

    private static void blinksOut(int side) {
        BodyRows2 x = new BodyRows2();
        x.input(2, side + 1);
        Check.due("TURN none", x.input(2, 0), 0);
        x.step(239);
        Check.due("COUNT before the end", x.state(6 + side), 2);
        x.step(1);
        Check.due("COUNT at the end", x.state(6 + side), 3);
        Check.due("it blinks no more", x.output(3 + side), 0);
        Check.due("nor later", x.step(1000), 0);
        Check.due("COUNT stays", x.state(6 + side), 3);
        Check.due("TURN again", x.input(2, side + 1), 1);
        Check.due("COUNT from 0 on", x.state(6 + side), 0);
        x.step(39);
        Check.due("age from 0 on", x.output(3 + side), 1);
        Check.due("age from 0 on", x.step(1), 1);
    }

    private static void endsOnlyWithAPeriod(int side) {
        BodyRows2 x = new BodyRows2();
        x.input(2, side + 1);
        x.step(405);
        Check.due("COUNT", x.state(6 + side), 5);
        Check.due("TURN none", x.input(2, 0), 0);
        Check.due("its period goes on", x.step(34), 0);
        Check.due("bright", x.output(3 + side), 1);
        Check.due("to the dim half", x.step(1), 1);
        x.step(40);
        Check.due("COUNT", x.state(6 + side), 6);
        Check.due("it blinks no more", x.output(3 + side), 0);
        x.step(100);
        Check.due("COUNT stays", x.state(6 + side), 6);
    }

    private static void brokenBulbIsFaster(int side) {
        BodyRows2 x = new BodyRows2();
        x.bulb(4 + side, false);
        x.input(3, 1);
        for (int tick = 1; tick <= 160; tick++) {
            x.step(1);
            Check.due("fast side at " + tick, x.output(3 + side), tick % 40 < 20 ? 1 : 0);
            Check.due("whole side at " + tick, x.output(4 - side), tick % 80 < 40 ? 1 : 0);
        }
        Check.due("fast COUNT", x.state(6 + side), 4);
        Check.due("whole COUNT", x.state(7 - side), 2);
    }

    private static void bulbBreaksOnTheWay(int side) {
        BodyRows2 x = new BodyRows2();
        x.input(2, side + 1);
        x.step(30);
        x.bulb(4 + side, false);
        Check.due("30 is no more in the bright half", x.output(3 + side), 0);
        x.bulb(4 + side, true);
        Check.due("and is again", x.output(3 + side), 1);
        x.step(30);
        x.bulb(4 + side, false);
        Check.due("60 is above the period", x.step(1), 1);
        Check.due("so a period ends", x.state(6 + side), 1);
        x.step(19);
        Check.due("age from 0 on, bright", x.output(3 + side), 1);
        x.step(1);
        Check.due("age from 0 on, dim", x.output(3 + side), 0);
    }

    private static void wantedGoesOn(int side) {
        BodyRows2 x = new BodyRows2();
        x.input(2, side + 1);
        x.step(800);
        Check.due("COUNT", x.state(6 + side), 10);
        Check.due("it blinks", x.output(3 + side), 1);
    }

    private static void otherSideEndsAtOnce(int side) {
        BodyRows2 x = new BodyRows2();
        x.input(2, side + 1);
        x.step(85);
        Check.due("TURN to the other side", x.input(2, 2 - side), 2);
        Check.due("the first is off", x.output(3 + side), 0);
        Check.due("the other is on", x.output(4 - side), 1);
        Check.due("the first's COUNT stays", x.state(6 + side), 1);
        x.step(1000);
        Check.due("the first's COUNT stays", x.state(6 + side), 1);
        x.input(2, side + 1);
        Check.due("the first begins anew", x.state(6 + side), 0);
        x.step(39);
        Check.due("with age 0, bright", x.output(3 + side), 1);
        x.step(1);
        Check.due("with age 0, dim", x.output(3 + side), 0);
    }

    private static void toldAnewEndsTheOther(int side) {
        BodyRows2 x = new BodyRows2();
        x.input(2, side + 1);
        x.input(3, 1);
        Check.due("HAZARD off", x.input(3, 0), 0);
        x.step(5);
        Check.due("the other goes on", x.output(4 - side), 1);
        Check.due("TURN told anew", x.input(2, side + 1), 1);
        Check.due("the other ends", x.output(4 - side), 0);
        Check.due("this one goes on", x.output(3 + side), 1);
    }

    private static void wantedAgainGoesOn(int side) {
        BodyRows2 x = new BodyRows2();
        x.input(2, side + 1);
        x.step(100);
        x.input(2, 0);
        x.step(20);
        Check.due("wanted again while it blinks", x.input(2, side + 1), 0);
        Check.due("COUNT goes on", x.state(6 + side), 1);
        x.step(40);
        Check.due("age goes on", x.state(6 + side), 2);
    }

    private static void hazardWantsBoth() {
        BodyRows2 x = new BodyRows2();
        Check.due("HAZARD", x.input(3, 1), 2);
        Check.outputs("HAZARD", x, 0, 0, 0, 1, 1);
        x.step(400);
        Check.due("left COUNT", x.state(6), 5);
        Check.due("right COUNT", x.state(7), 5);
        Check.due("HAZARD off", x.input(3, 0), 0);
        x.step(80);
        Check.outputs("both ended with the period", x);
    }

    private static void hazardKeepsTheOther() {
        BodyRows2 x = new BodyRows2();
        x.input(3, 1);
        Check.due("TURN with HAZARD", x.input(2, 1), 0);
        Check.due("the other with HAZARD", x.input(2, 2), 0);
        Check.outputs("both", x, 0, 0, 0, 1, 1);
        x.step(240);
        x.input(3, 0);
        x.step(80);
        Check.outputs("right is still wanted", x, 0, 0, 0, 0, 1);
    }

    private static void noTurnEndsNothing() {
        BodyRows2 x = new BodyRows2();
        x.input(3, 1);
        x.input(3, 0);
        Check.due("TURN none", x.input(2, 0), 0);
        Check.outputs("both go on", x, 0, 0, 0, 1, 1);
    }

    private static void anyInputButNoOtherEnds() {
        BodyRows2 x = new BodyRows2();
        x.input(2, 1);
        x.input(3, 1);
        x.input(3, 0);
        for (int kind = 0; kind < 9; kind++) {
            if (kind != 2) {
                x.input(kind, 1);
                x.input(kind, 0);
            }
        }
        x.input(0, 2);
        x.input(4, 2);
        x.input(1, 2);
        x.input(0, 0);
        Check.outputs("both go on", x, 0, 0, 0, 1, 1);
        x.input(2, 0);
        for (int kind = 0; kind < 9; kind++) {
            if (kind != 2 && kind != 3 && kind != 7) {
                x.input(kind, 1);
            }
        }
        x.input(0, 0);
        Check.outputs("both go on", x, 0, 0, 0, 1, 1);
    }
}
