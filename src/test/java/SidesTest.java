/** The turn signs: TICK's words about SIDES, in promises 2 to 4, 10 and 13. */
public final class SidesTest {
    public static void main(String[] args) {
        for (int side = 0; side < 2; side++) {
            oneThatDoesNotBlink(side);
            periodOfEighty(side);
            periodOfForty(side);
            ageAboveThePeriod(side);
            bulbWholeAgain(side);
            parkingBulbsDoNotMatter(side);
            blinksOutAtThree(side);
            wantedGoesOn(side);
            endsAboveThree(side);
            brightHalf(side);
            brightHalfWithoutBulb(side);
            wantedByTurn(side);
            wantedByHazard(side);
            wantedByCrash(side);
            beginsAnew(side);
            blinkingGoesOn(side);
            otherEndsAtOnce(side);
            toldAnewEndsTheOther(side);
            wantedOtherStays(side);
            aRefusedTurnEndsNothing(side);
        }
        noTurnEndsNothing();
        otherInputsEndNothing();
        Check.end();
    }

    private static BodyRows2 turning(int side) {
        BodyRows2 x = new BodyRows2();
        x.input(2, side + 1);
        return x;
    }

    private static void oneThatDoesNotBlink(int side) {
        Check.sentence("one that BLINKS has an age; it is one more");
        BodyRows2 x = turning(1 - side);
        x.step(1000);
        Check.due("COUNT of one that does not BLINK", x.state(6 + side), 0);
        x.input(2, side + 1);
        x.step(39);
        Check.due("its age was 0", x.output(3 + side), 1);
        x.step(1);
        Check.due("its age was 0", x.output(3 + side), 0);
    }

    private static void periodOfEighty(int side) {
        Check.sentence("Its period is 80; when the age is that or more, it is 0, and its COUNT one more");
        BodyRows2 x = turning(side);
        x.step(79);
        Check.due("COUNT at 79", x.state(6 + side), 0);
        x.step(1);
        Check.due("COUNT at 80", x.state(6 + side), 1);
        x.step(79);
        Check.due("COUNT at 159", x.state(6 + side), 1);
        x.step(1);
        Check.due("COUNT at 160", x.state(6 + side), 2);
        Check.due("the other COUNT", x.state(7 - side), 0);
    }

    private static void periodOfForty(int side) {
        Check.sentence("or 40 if its turn bulb (4 left, 5 right) is out");
        BodyRows2 x = new BodyRows2();
        x.bulb(4 + side, false);
        x.input(3, 1);
        x.step(39);
        Check.due("COUNT at 39", x.state(6 + side), 0);
        x.step(1);
        Check.due("COUNT at 40", x.state(6 + side), 1);
        x.step(39);
        Check.due("COUNT at 79", x.state(6 + side), 1);
        Check.due("the whole side's COUNT at 79", x.state(7 - side), 0);
        x.step(1);
        Check.due("COUNT at 80", x.state(6 + side), 2);
        Check.due("the whole side's COUNT at 80", x.state(7 - side), 1);
    }

    private static void ageAboveThePeriod(int side) {
        Check.sentence("when the age is that or more, it is 0, and its COUNT one more");
        int[] ages = {38, 39, 40, 41, 60, 78, 79};
        for (int age : ages) {
            BodyRows2 x = turning(side);
            x.step(age);
            x.bulb(4 + side, false);
            Check.due("COUNT before a tick", x.state(6 + side), 0);
            x.step(1);
            Check.due("COUNT behind age " + age, x.state(6 + side), age == 38 ? 0 : 1);
            Check.due("bright behind age " + age, x.output(3 + side), age == 38 ? 0 : 1);
            if (age > 38) {
                x.step(19);
                Check.due("the age is 0, not what is left of " + age, x.output(3 + side), 1);
                x.step(1);
                Check.due("the age is 0, not what is left of " + age, x.output(3 + side), 0);
            }
        }
    }

    private static void bulbWholeAgain(int side) {
        Check.sentence("Its period is 80, or 40 if its turn bulb (4 left, 5 right) is out");
        BodyRows2 x = new BodyRows2();
        x.bulb(4 + side, false);
        x.input(2, side + 1);
        x.step(39);
        x.bulb(4 + side, true);
        x.step(40);
        Check.due("COUNT at 79", x.state(6 + side), 0);
        x.step(1);
        Check.due("COUNT at 80", x.state(6 + side), 1);
    }

    private static void parkingBulbsDoNotMatter(int side) {
        Check.sentence("if its turn bulb (4 left, 5 right) is out");
        BodyRows2 x = turning(side);
        for (int i = 0; i < 6; i++) {
            if (i != 4 + side) {
                x.bulb(i, false);
            }
        }
        x.step(39);
        Check.due("bright at 39", x.output(3 + side), 1);
        x.step(40);
        Check.due("COUNT at 79", x.state(6 + side), 0);
    }

    private static void blinksOutAtThree(int side) {
        Check.sentence("then, if the side is not WANTED, and COUNT 3 or more, it BLINKS no more");
        BodyRows2 x = turning(side);
        Check.due("TURN none", x.input(2, 0), 0);
        x.step(80);
        Check.due("it BLINKS at COUNT 1", x.output(3 + side), 1);
        x.step(80);
        Check.due("COUNT", x.state(6 + side), 2);
        Check.due("it BLINKS at COUNT 2", x.output(3 + side), 1);
        x.step(79);
        Check.due("COUNT before the end", x.state(6 + side), 2);
        x.step(1);
        Check.due("COUNT at the end", x.state(6 + side), 3);
        Check.due("it BLINKS no more", x.output(3 + side), 0);
        Check.due("nor later", x.step(1000), 0);
        Check.due("COUNT stays", x.state(6 + side), 3);
    }

    private static void wantedGoesOn(int side) {
        Check.sentence("if the side is not WANTED, and COUNT 3 or more");
        BodyRows2 x = turning(side);
        for (int count = 1; count <= 10; count++) {
            x.step(80);
            Check.due("COUNT", x.state(6 + side), count);
            Check.due("WANTED: it BLINKS at COUNT " + count, x.output(3 + side), 1);
        }
    }

    private static void endsAboveThree(int side) {
        Check.sentence("when the age is that or more, ..; then, if the side is not WANTED, and COUNT 3 or more");
        BodyRows2 x = turning(side);
        x.step(405);
        Check.due("TURN none", x.input(2, 0), 0);
        Check.due("its period goes on", x.step(34), 0);
        Check.due("bright", x.output(3 + side), 1);
        Check.due("to the dim half", x.step(1), 1);
        x.step(40);
        Check.due("COUNT", x.state(6 + side), 6);
        Check.due("it BLINKS no more", x.output(3 + side), 0);
        x.step(100);
        Check.due("COUNT stays", x.state(6 + side), 6);
    }

    private static void brightHalf(int side) {
        Check.sentence("The bright half: the age is less than half the period");
        BodyRows2 x = turning(side);
        for (int tick = 0; tick <= 160; tick++) {
            Check.due("side " + side + " at " + tick, x.output(3 + side), tick % 80 < 40 ? 1 : 0);
            Check.due("the other side", x.output(4 - side), 0);
            x.step(1);
        }
    }

    private static void brightHalfWithoutBulb(int side) {
        Check.sentence("The bright half: the age is less than half the period");
        BodyRows2 x = new BodyRows2();
        x.bulb(4 + side, false);
        x.input(3, 1);
        for (int tick = 0; tick <= 160; tick++) {
            Check.due("fast side at " + tick, x.output(3 + side), tick % 40 < 20 ? 1 : 0);
            Check.due("whole side at " + tick, x.output(4 - side), tick % 80 < 40 ? 1 : 0);
            x.step(1);
        }
        x = turning(side);
        x.step(20);
        x.bulb(4 + side, false);
        Check.due("20 of 40 is dim", x.output(3 + side), 0);
        x.bulb(4 + side, true);
        Check.due("20 of 80 is bright", x.output(3 + side), 1);
    }

    private static void wantedByTurn(int side) {
        Check.sentence("or if TURN is it");
        BodyRows2 x = new BodyRows2();
        Check.due("TURN", x.input(2, side + 1), 1);
        Check.due("that side", x.output(3 + side), 1);
        Check.due("the other side", x.output(4 - side), 0);
        x.step(1000);
        Check.due("that COUNT", x.state(6 + side), 12);
        Check.due("the other COUNT", x.state(7 - side), 0);
    }

    private static void wantedByHazard(int side) {
        Check.sentence("A side is WANTED with HAZARD");
        BodyRows2 x = new BodyRows2();
        Check.due("HAZARD", x.input(3, 1), 2);
        x.step(1000);
        Check.due("COUNT", x.state(6 + side), 12);
        x.input(3, 0);
        x.step(40);
        Check.due("not WANTED any more", x.output(3 + side), 0);
        x.step(1000);
        Check.due("COUNT", x.state(6 + side), 13);
    }

    private static void wantedByCrash(int side) {
        Check.sentence("A side is WANTED .. behind a CRASH");
        BodyRows2 x = new BodyRows2();
        x.crash();
        x.step(1000);
        Check.due("COUNT", x.state(6 + side), 12);
        x.input(3, 1);
        x.input(3, 0);
        x.input(2, 2 - side);
        x.input(2, 0);
        x.step(1000);
        Check.due("it is WANTED for ever", x.state(6 + side), 25);
    }

    private static void beginsAnew(int side) {
        Check.sentence("each side that is WANTED and does not BLINK begins to: age and COUNT are 0");
        BodyRows2 x = turning(side);
        x.input(2, 0);
        x.step(240);
        Check.due("COUNT before", x.state(6 + side), 3);
        Check.due("TURN again", x.input(2, side + 1), 1);
        Check.due("COUNT is 0", x.state(6 + side), 0);
        x.step(39);
        Check.due("age was 0", x.output(3 + side), 1);
        x.step(1);
        Check.due("age was 0", x.output(3 + side), 0);
        x.input(2, 2 - side);
        x.input(2, side + 1);
        Check.due("begun anew from the dim half", x.output(3 + side), 1);
        x.step(79);
        Check.due("COUNT at 79", x.state(6 + side), 0);
        x.step(1);
        Check.due("COUNT at 80", x.state(6 + side), 1);
    }

    private static void blinkingGoesOn(int side) {
        Check.sentence("each side that is WANTED and does not BLINK begins to");
        BodyRows2 x = turning(side);
        x.step(100);
        x.input(2, 0);
        x.step(20);
        Check.due("WANTED again while it BLINKS", x.input(2, side + 1), 0);
        Check.due("COUNT goes on", x.state(6 + side), 1);
        Check.due("HAZARD begins the other alone", x.input(3, 1), 1);
        Check.due("CRASH begins none: PARKING", x.crash(), 1);
        x.step(39);
        Check.due("age goes on", x.state(6 + side), 1);
        x.step(1);
        Check.due("age goes on", x.state(6 + side), 2);
    }

    private static void otherEndsAtOnce(int side) {
        Check.sentence("TURN told as one side (anew or not) ends the other one's BLINKING at once");
        BodyRows2 x = turning(side);
        x.step(85);
        Check.due("TURN to the other side", x.input(2, 2 - side), 2);
        Check.due("the first is off", x.output(3 + side), 0);
        Check.due("the other is on", x.output(4 - side), 1);
        Check.due("the first's COUNT stays", x.state(6 + side), 1);
        x.step(1000);
        Check.due("the first's COUNT stays", x.state(6 + side), 1);
        x.input(2, side + 1);
        Check.due("the first begins anew", x.state(6 + side), 0);
        Check.due("the other's COUNT stays", x.state(7 - side), 12);
    }

    private static void toldAnewEndsTheOther(int side) {
        Check.sentence("TURN told as one side (anew or not)");
        BodyRows2 x = turning(side);
        x.input(3, 1);
        Check.due("HAZARD off", x.input(3, 0), 0);
        x.step(5);
        Check.due("the other goes on", x.output(4 - side), 1);
        Check.due("TURN told anew", x.input(2, side + 1), 1);
        Check.due("the other ends", x.output(4 - side), 0);
        Check.due("this one goes on", x.output(3 + side), 1);
        x.step(34);
        Check.due("with its age", x.output(3 + side), 1);
        x.step(1);
        Check.due("with its age", x.output(3 + side), 0);
    }

    private static void wantedOtherStays(int side) {
        Check.sentence("ends the other one's BLINKING at once, if that is not WANTED");
        BodyRows2 x = new BodyRows2();
        x.input(3, 1);
        Check.due("TURN with HAZARD", x.input(2, side + 1), 0);
        Check.outputs("both", x, 0, 0, 0, 1, 1);
        x.step(240);
        x.input(3, 0);
        x.step(80);
        Check.due("TURN's is still WANTED", x.output(3 + side), 1);
        Check.due("the other is not", x.output(4 - side), 0);
        x = new BodyRows2();
        x.crash();
        Check.due("TURN behind a CRASH", x.input(2, side + 1), 0);
        Check.outputs("both", x, 1, 0, 0, 1, 1);
    }

    private static void aRefusedTurnEndsNothing(int side) {
        Check.sentence("REFUSALS change nothing");
        BodyRows2 x = turning(side);
        for (int v : Check.outside(0, 2)) {
            Check.due("TURN " + v, x.input(2, v), -2);
            Check.due("it BLINKS", x.output(3 + side), 1);
            Check.due("the other does not", x.output(4 - side), 0);
        }
        x.step(1000);
        Check.due("it is still WANTED", x.state(6 + side), 12);
    }

    private static void noTurnEndsNothing() {
        Check.sentence("TURN told as one side");
        BodyRows2 x = new BodyRows2();
        x.input(3, 1);
        x.input(3, 0);
        Check.due("TURN none", x.input(2, 0), 0);
        Check.outputs("both go on", x, 0, 0, 0, 1, 1);
        x.step(240);
        Check.outputs("both BLINKED out", x);
        Check.states("both BLINKED out", x, 0, 0, 0, 0, 0, 0, 3, 3, 0, 240);
    }

    private static void otherInputsEndNothing() {
        Check.sentence("TURN told as one side (anew or not) ends the other one's BLINKING");
        for (int kind = 0; kind < 9; kind++) {
            if (kind != 2) {
                BodyRows2 x = turning(0);
                x.input(3, 1);
                x.input(3, 0);
                x.input(kind, 1);
                x.input(kind, 0);
                Check.due("LEFT behind kind " + kind, x.output(3), 1);
                Check.due("RIGHT behind kind " + kind, x.output(4), 1);
            }
        }
    }
}
