/** Promise 14: what keys remember. */
public final class MemoryTest {
    public static void main(String[] args) {
        refusals();
        windowsWishes();
        interior();
        keysAreApart();
        nothingIsGivenBack();
        Check.end();
    }

    private static void refusals() {
        BodyRows2 x = new BodyRows2();
        int[] keys = {-1, 4, Integer.MIN_VALUE, Integer.MAX_VALUE};
        int[] whats = {-1, 5, Integer.MIN_VALUE, Integer.MAX_VALUE};
        int[] values = {-1, 2, Integer.MIN_VALUE, Integer.MAX_VALUE};
        for (int key : keys) {
            Check.due("memory(" + key + ", 0, 0)", x.memory(key, 0, 0), -1);
            Check.due("memory(" + key + ", 5, 2), the first that fits", x.memory(key, 5, 2), -1);
        }
        for (int what : whats) {
            Check.due("memory(0, " + what + ", 0)", x.memory(0, what, 0), -2);
            Check.due("memory(0, " + what + ", 1)", x.memory(0, what, 1), -2);
        }
        for (int v : values) {
            Check.due("memory(0, 0, " + v + ")", x.memory(0, 0, v), -2);
        }
        for (int what = 0; what <= 4; what++) {
            Check.due("refusals remember nothing", x.memory(0, what, 1), -1);
        }
    }

    private static void windowsWishes() {
        for (int i = 0; i < 4; i++) {
            BodyRows2 x = new BodyRows2();
            x.window(i, 150);
            x.step(10);
            Check.due("the WISH, not the place", x.memory(2, i, 0), 150);
            x.window(i, 0);
            Check.due("given back", x.memory(2, i, 1), 150);
            Check.due("the place stays", x.state(i), 10);
            x.step(200);
            Check.due("it goes there", x.state(i), 150);
            x.window(i, 20);
            Check.due("remembered anew", x.memory(2, i, 0), 20);
            Check.due("given back", x.memory(2, i, 1), 20);
        }
    }

    private static void interior() {
        BodyRows2 x = new BodyRows2();
        x.input(8, 1);
        x.step(30);
        Check.due("INTERIOR", x.memory(3, 4, 0), 30);
        x.step(30);
        Check.due("given back", x.memory(3, 4, 1), 30);
        Check.due("INTERIOR is", x.output(7), 30);
        Check.due("it goes on from there", x.step(1), 1);
        Check.due("INTERIOR", x.output(7), 31);
        x.input(8, 0);
        x.step(100);
        Check.due("given back", x.memory(3, 4, 1), 30);
        Check.due("and fades", x.step(10), 1);
        Check.due("INTERIOR", x.output(7), 20);
    }

    private static void keysAreApart() {
        BodyRows2 x = new BodyRows2();
        for (int key = 0; key < 4; key++) {
            for (int i = 0; i < 4; i++) {
                x.window(i, 10 * key + i + 1);
                Check.due("remembers", x.memory(key, i, 0), 10 * key + i + 1);
            }
        }
        for (int key = 0; key < 4; key++) {
            Check.due("INTERIOR is apart", x.memory(key, 4, 1), -1);
            for (int i = 0; i < 4; i++) {
                Check.due("gives back", x.memory(key, i, 1), 10 * key + i + 1);
            }
        }
    }

    private static void nothingIsGivenBack() {
        BodyRows2 x = new BodyRows2();
        x.window(1, 100);
        x.input(8, 1);
        x.step(50);
        Check.due("a WISH", x.memory(0, 1, 1), -1);
        Check.due("INTERIOR", x.memory(0, 4, 1), -1);
        Check.due("INTERIOR is as it was", x.output(7), 50);
        x.step(50);
        Check.due("the WISH is as it was", x.state(1), 100);
        Check.due("0 is remembered too", x.memory(0, 0, 0), 0);
        x.window(0, 9);
        Check.due("0 is given back", x.memory(0, 0, 1), 0);
        x.step(20);
        Check.due("the window stays open", x.state(0), 0);
    }
}
