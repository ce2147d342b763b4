/** Promises 2 and 3: the inputs, and the outputs that follow from them at once. */
public final class InputTest {
    private static final int[] GREATEST = {3, 1000, 2, 1, 3, 1, 1, 1, 1};

    public static void main(String[] args) {
        unknownKindsAndValues();
        unknownOutputs();
        lightsBySwitch();
        lightsByDark();
        darkHasTwoBounds();
        highNeedsLowAndBeam();
        hornIsItsInput();
        theSameInputChangesNothing();
        Check.end();
    }

    private static void unknownKindsAndValues() {
        BodyRows2 x = new BodyRows2();
        int[] unknown = {-1, 9, 10, Integer.MIN_VALUE, Integer.MAX_VALUE};
        for (int kind : unknown) {
            Check.due("input(" + kind + ", 0)", x.input(kind, 0), -1);
            Check.due("input(" + kind + ", -1), the first that fits", x.input(kind, -1), -1);
        }
        for (int kind = 0; kind < 9; kind++) {
            int[] outside = {-1, GREATEST[kind] + 1, Integer.MIN_VALUE, Integer.MAX_VALUE};
            for (int v : outside) {
                Check.due("input(" + kind + ", " + v + ")", x.input(kind, v), -2);
            }
        }
        Check.outputs("after refusals", x);
        for (int kind = 0; kind < 9; kind++) {
            BodyRows2 y = new BodyRows2();
            Check.holds("input(" + kind + ", greatest)", y.input(kind, GREATEST[kind]) >= 0);
            Check.holds("input(" + kind + ", 0)", y.input(kind, 0) >= 0);
        }
    }

    private static void unknownOutputs() {
        BodyRows2 x = new BodyRows2();
        int[] unknown = {-1, 10, 11, Integer.MIN_VALUE, Integer.MAX_VALUE};
        for (int i : unknown) {
            boolean thrown = false;
            try {
                x.output(i);
            } catch (IndexOutOfBoundsException e) {
                // The machine's own exception for an array is a class below the one that is due.
                thrown = e.getClass() == IndexOutOfBoundsException.class;
            }
            Check.holds("output(" + i + ") throws", thrown);
        }
    }

    private static void lightsBySwitch() {
        BodyRows2 x = new BodyRows2();
        Check.due("LIGHT parking", x.input(0, 1), 1);
        Check.outputs("LIGHT parking", x, 1);
        Check.due("IGNITION with parking", x.input(5, 1), 0);
        Check.due("LIGHT low", x.input(0, 2), 1);
        Check.outputs("LIGHT low", x, 1, 1);
        Check.due("IGNITION off", x.input(5, 0), 1);
        Check.outputs("LIGHT low without IGNITION", x, 1);
        x.input(5, 1);
        Check.due("LIGHT off", x.input(0, 0), 2);
        Check.outputs("LIGHT off", x);
    }

    private static void lightsByDark() {
        BodyRows2 x = new BodyRows2();
        x.input(5, 1);
        Check.due("LIGHT by DARK in the light", x.input(0, 3), 0);
        Check.due("it grows dark", x.input(1, 0), 2);
        Check.outputs("DARK", x, 1, 1);
        Check.due("LIGHT off in the dark", x.input(0, 0), 2);
        Check.due("LIGHT parking in the dark", x.input(0, 1), 1);
        Check.outputs("LIGHT parking in the dark", x, 1);
        Check.due("LIGHT by DARK in the dark", x.input(0, 3), 1);
        Check.due("it grows light", x.input(1, 1000), 2);
        Check.outputs("light", x);
    }

    private static void darkHasTwoBounds() {
        BodyRows2 x = new BodyRows2();
        int[] bright = {300, 201, 200, 199, 200, 201, 399, 400, 401, 400, 300, 200, 0, 1000};
        int[] dark = {0, 0, 0, 1, 1, 1, 1, 1, 0, 0, 0, 0, 1, 0};
        for (int i = 0; i < bright.length; i++) {
            Check.due("input(1, " + bright[i] + ")", x.input(1, bright[i]), 0);
            Check.due("DARK at " + bright[i], x.state(8), dark[i]);
        }
        x.input(1, 100);
        x.input(0, 2);
        x.input(4, 2);
        Check.due("DARK is by BRIGHT alone", x.state(8), 1);
    }

    private static void highNeedsLowAndBeam() {
        BodyRows2 x = new BodyRows2();
        Check.due("BEAM alone", x.input(6, 1), 0);
        Check.due("BEAM with LIGHT low", x.input(0, 2), 1);
        Check.due("and with IGNITION", x.input(5, 1), 2);
        Check.outputs("HIGH", x, 1, 1, 1);
        Check.due("BEAM off", x.input(6, 0), 1);
        Check.outputs("BEAM off", x, 1, 1, 0);
        x.input(6, 1);
        Check.due("LIGHT parking ends LOW and HIGH", x.input(0, 1), 2);
    }

    private static void hornIsItsInput() {
        BodyRows2 x = new BodyRows2();
        Check.due("HORN", x.input(7, 1), 1);
        Check.outputs("HORN", x, 0, 0, 0, 0, 0, 0, 1);
        Check.due("HORN again", x.input(7, 1), 0);
        Check.due("HORN off", x.input(7, 0), 1);
        Check.outputs("HORN off", x);
    }

    private static void theSameInputChangesNothing() {
        for (int kind = 0; kind < 9; kind++) {
            BodyRows2 x = new BodyRows2();
            x.input(kind, 1);
            Check.due("input(" + kind + ", 1) again", x.input(kind, 1), 0);
        }
    }
}
