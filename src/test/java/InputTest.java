/** Promise 2: the inputs, their ranges, and DARK. */
public final class InputTest {
    private static final int[] GREATEST = {3, 1000, 2, 1, 3, 1, 1, 1, 1};
    private static final String[] RANGES = {
        "0 LIGHT (0 off, 1 parking, 2 low, 3 by DARK)", "1 BRIGHT (0 .. 1000)", "2 TURN (0 none, 1 left, 2 right)",
        "3 HAZARD (0, 1)", "4 WIPER (0 off, 1 by RAIN, 2 slow, 3 fast)", "5 IGNITION (0, 1)", "6 BEAM (0, 1)",
        "7 HORN (0, 1)", "8 DOOR (0, 1)"
    };

    public static void main(String[] args) {
        unknownKinds();
        for (int kind = 0; kind < 9; kind++) {
            valuesOutside(kind);
            valuesOf(kind);
            theSameAgainChangesNothing(kind);
        }
        howManyOutputsAreOthers();
        darkBegins();
        darkEnds();
        darkStaysBetween();
        darkIsByBrightAlone();
        Check.end();
    }

    private static BodyRows2 lit() {
        BodyRows2 x = new BodyRows2();
        x.input(5, 1);
        x.input(0, 2);
        return x;
    }

    private static void unknownKinds() {
        Check.sentence("-1 there is no such KIND");
        for (int kind : Check.outside(0, 8)) {
            BodyRows2 x = lit();
            for (int v = 0; v <= 3; v++) {
                Check.due("input(" + kind + ", " + v + ")", x.input(kind, v), -1);
            }
            Check.due("input(" + kind + ", 1000)", x.input(kind, 1000), -1);
            Check.outputs("behind kind " + kind, x, 1, 1);
            Check.states("behind kind " + kind, x);
        }
    }

    private static void valuesOutside(int kind) {
        Check.sentence("-2 v is none of its: " + RANGES[kind]);
        for (int v : Check.outside(0, GREATEST[kind])) {
            BodyRows2 x = lit();
            Check.due("input(" + kind + ", " + v + ")", x.input(kind, v), -2);
            Check.outputs("behind v " + v, x, 1, 1);
            Check.due("no tick finds a change behind v " + v, x.step(100), 0);
            Check.states("behind v " + v, x, 0, 0, 0, 0, 0, 0, 0, 0, 0, 100);
        }
    }

    private static void valuesOf(int kind) {
        Check.sentence(RANGES[kind]);
        int[][] due = {
            {0, 1, 1, 0}, {0, 0, 0, 0}, {0, 1, 1}, {0, 2}, {0, 0, 0, 0}, {0, 0}, {0, 0}, {0, 1}, {0, 0}
        };
        for (int v = 0; v < due[kind].length; v++) {
            Check.due("input(" + kind + ", " + v + ")", new BodyRows2().input(kind, v), due[kind][v]);
        }
        Check.holds("input(" + kind + ", greatest)", new BodyRows2().input(kind, GREATEST[kind]) >= 0);
    }

    private static void theSameAgainChangesNothing(int kind) {
        Check.sentence("how many OUTPUTS are others then");
        for (int v = 0; v <= Math.min(3, GREATEST[kind]); v++) {
            BodyRows2 x = lit();
            x.input(kind, v);
            Check.due("input(" + kind + ", " + v + ") again", x.input(kind, v), 0);
        }
    }

    private static void howManyOutputsAreOthers() {
        Check.sentence("how many OUTPUTS are others then");
        BodyRows2 x = new BodyRows2();
        x.input(6, 1);
        x.input(0, 3);
        x.input(5, 1);
        Check.due("none: BRIGHT 500", x.input(1, 500), 0);
        Check.due("three: BRIGHT 0", x.input(1, 0), 3);
        Check.due("two: LIGHT parking", x.input(0, 1), 2);
        Check.due("one: LIGHT off", x.input(0, 0), 1);
        x.trailer(true);
        Check.due("four: HAZARD", x.input(3, 1), 4);
    }

    private static void darkAt(BodyRows2 x, int bright, int dark) {
        x.input(1, bright);
        Check.due("DARK at " + bright, x.state(8), dark);
    }

    private static void darkBegins() {
        Check.sentence("DARK (not at first) begins when BRIGHT comes to be below 200");
        int[] light = {1000, 401, 400, 399, 300, 201, 200};
        for (int bright : light) {
            darkAt(new BodyRows2(), bright, 0);
        }
        int[] dark = {199, 198, 100, 1, 0};
        for (int bright : dark) {
            darkAt(new BodyRows2(), bright, 1);
        }
    }

    private static void darkEnds() {
        Check.sentence("and ends when above 400");
        int[] dark = {0, 199, 200, 201, 300, 399, 400};
        for (int bright : dark) {
            BodyRows2 x = new BodyRows2();
            darkAt(x, 0, 1);
            darkAt(x, bright, 1);
        }
        int[] light = {401, 402, 999, 1000};
        for (int bright : light) {
            BodyRows2 x = new BodyRows2();
            darkAt(x, 0, 1);
            darkAt(x, bright, 0);
        }
    }

    private static void darkStaysBetween() {
        Check.sentence("begins when BRIGHT comes to be below 200, and ends when above 400");
        BodyRows2 x = new BodyRows2();
        int[] bright = {400, 200, 199, 200, 400, 401, 400, 200, 0, 1000};
        int[] dark = {0, 0, 1, 1, 1, 0, 0, 0, 1, 0};
        for (int i = 0; i < bright.length; i++) {
            darkAt(x, bright[i], dark[i]);
        }
    }

    private static void darkIsByBrightAlone() {
        Check.sentence("DARK (not at first) begins when BRIGHT comes to be below 200");
        BodyRows2 x = new BodyRows2();
        x.input(1, 199);
        for (int kind = 0; kind < 9; kind++) {
            if (kind != 1) {
                x.input(kind, GREATEST[kind]);
                x.input(kind, 0);
            }
        }
        x.crash();
        x.step(1000);
        Check.due("DARK", x.state(8), 1);
    }
}
