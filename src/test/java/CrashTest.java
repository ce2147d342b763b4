/** Promise 13: the crash. */
public final class CrashTest {
    public static void main(String[] args) {
        whatItDoes();
        onlyOnce();
        countsOnlyWhatChanges();
        endedSidesBeginAnew();
        windowsOpen();
        Check.end();
    }

    private static void whatItDoes() {
        BodyRows2 x = new BodyRows2();
        Check.due("crash()", x.crash(), 3);
        Check.outputs("crash", x, 1, 0, 0, 1, 1);
        x.step(100);
        Check.outputs("100 ticks later", x, 1, 0, 0, 1, 1, 0, 0, 100);
        x.step(300);
        Check.due("COUNT goes on above 3", x.state(6), 5);
        Check.due("COUNT goes on above 3", x.state(7), 5);
        Check.due("INTERIOR stays", x.output(7), 100);
        Check.due("TURN ends no side", x.input(2, 1), 0);
        Check.due("nor the other", x.input(2, 2), 0);
        Check.due("LIGHT off", x.input(0, 0), 0);
        Check.due("IGNITION", x.input(5, 1), 0);
        Check.due("PARKING stays", x.output(0), 1);
        Check.due("LOW needs its LIGHT", x.output(1), 0);
    }

    private static void onlyOnce() {
        BodyRows2 x = new BodyRows2();
        x.crash();
        x.window(0, 50);
        Check.due("crash() again", x.crash(), -3);
        Check.due("which changes no WISH", x.memory(0, 0, 0), 50);
        x.step(50);
        Check.due("a window may close again", x.state(0), 50);
        Check.due("crash() again", x.crash(), -3);
    }

    private static void countsOnlyWhatChanges() {
        BodyRows2 x = new BodyRows2();
        x.input(0, 1);
        x.input(2, 1);
        Check.due("PARKING and LEFT are on", x.crash(), 1);
        Check.outputs("crash", x, 1, 0, 0, 1, 1);
        x = new BodyRows2();
        x.trailer(true);
        Check.due("with a trailer", x.crash(), 5);
        Check.outputs("crash", x, 1, 0, 0, 1, 1, 0, 0, 0, 1, 1);
        x = new BodyRows2();
        x.input(3, 1);
        x.step(50);
        Check.due("sides that blink go on", x.crash(), 1);
        x.step(30);
        Check.due("COUNT", x.state(6), 1);
    }

    private static void endedSidesBeginAnew() {
        BodyRows2 x = new BodyRows2();
        x.input(2, 1);
        x.input(2, 0);
        x.step(240);
        Check.due("COUNT", x.state(6), 3);
        Check.due("crash()", x.crash(), 3);
        Check.due("COUNT from 0 on", x.state(6), 0);
    }

    private static void windowsOpen() {
        BodyRows2 x = new BodyRows2();
        for (int i = 0; i < 4; i++) {
            x.window(i, 100 + i);
        }
        x.step(60);
        Check.due("crash()", x.crash(), 3);
        for (int i = 0; i < 4; i++) {
            Check.due("place " + i, x.state(i), 60);
            Check.due("WISH " + i, x.memory(0, i, 0), 0);
        }
        x.step(60);
        for (int i = 0; i < 4; i++) {
            Check.due("open " + i, x.state(i), 0);
        }
    }
}
