/** Promise 13: the crash. */
public final class CrashTest {
    public static void main(String[] args) {
        howManyOutputsAreOthers();
        noneIsAnother();
        aSecondIsRefused();
        aRefusedOneChangesNothing();
        wishesAreZero();
        windowsMayCloseAgain();
        whatKeysRememberStays();
        sidesBegin();
        whatABodyKeeps();
        Check.end();
    }

    private static void howManyOutputsAreOthers() {
        Check.sentence("A CRASH: how many OUTPUTS are others then");
        BodyRows2 x = new BodyRows2();
        Check.due("PARKING and both sides", x.crash(), 3);
        Check.outputs("crash", x, 1, 0, 0, 1, 1);
        x = new BodyRows2();
        x.input(0, 1);
        x.input(2, 1);
        Check.due("PARKING and LEFT are on", x.crash(), 1);
        Check.outputs("crash", x, 1, 0, 0, 1, 1);
        x = new BodyRows2();
        x.trailer(true);
        Check.due("with a trailer", x.crash(), 5);
        Check.outputs("crash", x, 1, 0, 0, 1, 1, 0, 0, 0, 1, 1);
    }

    private static void noneIsAnother() {
        Check.sentence("how many OUTPUTS are others then: none");
        BodyRows2 x = new BodyRows2();
        x.input(0, 1);
        x.input(3, 1);
        Check.due("PARKING and both sides are on", x.crash(), 0);
        x = new BodyRows2();
        x.input(0, 1);
        x.input(3, 1);
        x.step(50);
        Check.due("sides that BLINK stay in their dim half", x.crash(), 0);
        Check.outputs("dim", x, 1);
    }

    private static void aSecondIsRefused() {
        Check.sentence("-3 there was one");
        BodyRows2 x = new BodyRows2();
        x.crash();
        Check.due("crash() again", x.crash(), -3);
        x.step(1000);
        Check.due("crash() later", x.crash(), -3);
        for (int kind = 0; kind < 9; kind++) {
            x.input(kind, 0);
        }
        Check.due("crash() with all off", x.crash(), -3);
    }

    private static void aRefusedOneChangesNothing() {
        Check.sentence("-3 there was one; REFUSALS change nothing");
        BodyRows2 x = new BodyRows2();
        x.crash();
        x.window(0, 50);
        x.step(90);
        int[] before = new int[20];
        for (int i = 0; i < 10; i++) {
            before[i] = x.output(i);
            before[10 + i] = x.state(i);
        }
        Check.due("crash() again", x.crash(), -3);
        for (int i = 0; i < 10; i++) {
            Check.due("output(" + i + ")", x.output(i), before[i]);
            Check.due("state(" + i + ")", x.state(i), before[10 + i]);
        }
        Check.due("the WISH", x.memory(0, 0, 0), 50);
    }

    private static void wishesAreZero() {
        Check.sentence("all WISHES of windows are 0");
        BodyRows2 x = new BodyRows2();
        for (int i = 0; i < 4; i++) {
            x.window(i, 197 + i);
        }
        x.step(60);
        x.crash();
        for (int i = 0; i < 4; i++) {
            Check.due("the place stays", x.state(i), 60);
            Check.due("WISH " + i, x.memory(0, i, 0), 0);
        }
        x.step(59);
        Check.states("almost open", x, 1, 1, 1, 1, 0, 0, 0, 0, 0, 119);
        x.step(1);
        Check.states("open", x, 0, 0, 0, 0, 0, 0, 0, 0, 0, 120);
    }

    private static void windowsMayCloseAgain() {
        Check.sentence("all WISHES of windows are 0");
        BodyRows2 x = new BodyRows2();
        x.crash();
        Check.due("a WISH behind it", x.window(3, 200), 200);
        x.step(200);
        Check.due("closed", x.state(3), 200);
    }

    private static void whatKeysRememberStays() {
        Check.sentence("all WISHES of windows are 0");
        BodyRows2 x = new BodyRows2();
        x.window(2, 120);
        x.memory(1, 2, 0);
        x.crash();
        Check.due("the KEY's WISH", x.memory(1, 2, 1), 120);
        x.step(120);
        Check.due("given back", x.state(2), 120);
    }

    private static void sidesBegin() {
        Check.sentence("With any input, and the CRASH, each side that is WANTED and does not BLINK begins to");
        BodyRows2 x = new BodyRows2();
        x.input(2, 1);
        x.input(2, 0);
        x.step(240);
        Check.due("COUNT", x.state(6), 3);
        Check.due("crash()", x.crash(), 3);
        Check.due("COUNT from 0 on", x.state(6), 0);
        x.step(79);
        Check.states("at 79", x, 0, 0, 0, 0, 0, 0, 0, 0, 0, 319);
        x.step(1);
        Check.states("at 80", x, 0, 0, 0, 0, 0, 0, 1, 1, 0, 320);
    }

    private static void whatABodyKeeps() {
        Check.sentence("or there was a CRASH");
        BodyRows2 x = new BodyRows2();
        x.crash();
        x.input(0, 1);
        Check.due("LIGHT off", x.input(0, 0), 0);
        Check.due("PARKING stays", x.output(0), 1);
        Check.due("IGNITION", x.input(5, 1), 0);
        Check.due("LOW needs its LIGHT", x.output(1), 0);
        Check.due("BEAM", x.input(6, 1), 0);
        Check.due("HORN", x.output(6), 0);
    }
}
