/** Promise 14: what keys remember. */
public final class MemoryTest {
    public static void main(String[] args) {
        noSuchKey();
        noSuchWhat();
        noSuchV();
        firstThatFits();
        for (int i = 0; i < 4; i++) {
            remembersAWish(i);
            givesAWishBack(i);
            wishesAtTheEnds(i);
        }
        remembersInterior();
        givesInteriorBack();
        interiorAtTheEnds();
        nothingIsGivenBack();
        answersWhatItRemembersThen();
        keysAreApart();
        Check.end();
    }

    /** A body in which everything that a key may remember is something else. */
    private static BodyRows2 made() {
        BodyRows2 x = new BodyRows2();
        for (int i = 0; i < 4; i++) {
            x.window(i, 10 + i);
        }
        x.input(8, 1);
        x.step(30);
        return x;
    }

    private static void unchanged(BodyRows2 x) {
        for (int key = 0; key < 4; key++) {
            for (int what = 0; what < 5; what++) {
                Check.due("key " + key + " remembers", x.memory(key, what, 1), -1);
            }
        }
        for (int i = 0; i < 4; i++) {
            Check.due("WISH " + i, x.memory(0, i, 0), 10 + i);
        }
        Check.due("INTERIOR", x.output(7), 30);
    }

    private static void noSuchKey() {
        Check.sentence("-1 there is no KEY");
        BodyRows2 x = made();
        for (int key : Check.outside(0, 3)) {
            for (int what = 0; what < 5; what++) {
                Check.due("memory(" + key + ", " + what + ", 0)", x.memory(key, what, 0), -1);
                Check.due("memory(" + key + ", " + what + ", 1)", x.memory(key, what, 1), -1);
            }
        }
        unchanged(x);
    }

    private static void noSuchWhat() {
        Check.sentence("-2 there is no such what");
        BodyRows2 x = made();
        for (int what : Check.outside(0, 4)) {
            for (int key = 0; key < 4; key++) {
                Check.due("memory(" + key + ", " + what + ", 0)", x.memory(key, what, 0), -2);
                Check.due("memory(" + key + ", " + what + ", 1)", x.memory(key, what, 1), -2);
            }
        }
        unchanged(x);
    }

    private static void noSuchV() {
        Check.sentence("-2 there is no such .. v");
        BodyRows2 x = made();
        for (int v : Check.outside(0, 1)) {
            for (int what = 0; what < 5; what++) {
                Check.due("memory(0, " + what + ", " + v + ")", x.memory(0, what, v), -2);
                Check.due("memory(3, " + what + ", " + v + ")", x.memory(3, what, v), -2);
            }
        }
        unchanged(x);
    }

    private static void firstThatFits() {
        Check.sentence("the first that fits: -1 an unknown number, -2 outside a range");
        BodyRows2 x = made();
        Check.due("no KEY, no what", x.memory(4, 5, 0), -1);
        Check.due("no KEY, no v", x.memory(-1, 0, 2), -1);
        Check.due("no KEY, no what, no v", x.memory(-1, -1, -1), -1);
        Check.due("no what, no v", x.memory(3, 5, 2), -2);
        unchanged(x);
    }

    private static void remembersAWish(int i) {
        Check.sentence("A KEY remembers what is now (v = 0)");
        BodyRows2 x = new BodyRows2();
        x.window(i, 150);
        x.step(10);
        Check.due("the WISH, not the place", x.memory(2, i, 0), 150);
        Check.due("the place stays", x.state(i), 10);
        x.window(i, 20);
        Check.due("remembered anew", x.memory(2, i, 0), 20);
        Check.due("the WISH is still", x.memory(1, i, 0), 20);
        x.window(i, 100);
        x.pinch(i, 101);
        Check.due("a WISH by a pinch", x.memory(2, i, 0), 0);
    }

    private static void givesAWishBack(int i) {
        Check.sentence("or gives it back (v = 1: a WISH is what it remembers");
        BodyRows2 x = new BodyRows2();
        x.window(i, 150);
        x.memory(2, i, 0);
        x.window(i, 0);
        x.step(10);
        Check.due("given back", x.memory(2, i, 1), 150);
        Check.due("the place stays", x.state(i), 0);
        x.step(150);
        Check.due("it goes there", x.state(i), 150);
        x.window(i, 0);
        Check.due("given back again", x.memory(2, i, 1), 150);
        for (int other = 0; other < 4; other++) {
            Check.due("the others' WISHES", x.memory(0, other, 0), other == i ? 150 : 0);
        }
    }

    private static void wishesAtTheEnds(int i) {
        Check.sentence("a WISH is what it remembers: 0 and 200");
        BodyRows2 x = new BodyRows2();
        Check.due("0 is remembered", x.memory(0, i, 0), 0);
        x.window(i, 200);
        Check.due("200 is remembered", x.memory(1, i, 0), 200);
        Check.due("0 is given back", x.memory(0, i, 1), 0);
        x.step(10);
        Check.due("the window stays open", x.state(i), 0);
        Check.due("200 is given back", x.memory(1, i, 1), 200);
        x.step(200);
        Check.due("the window closes", x.state(i), 200);
    }

    private static void remembersInterior() {
        Check.sentence("4 INTERIOR");
        BodyRows2 x = new BodyRows2();
        x.input(8, 1);
        x.step(30);
        Check.due("INTERIOR", x.memory(3, 4, 0), 30);
        x.step(30);
        Check.due("remembered anew", x.memory(3, 4, 0), 60);
        Check.due("INTERIOR stays", x.output(7), 60);
    }

    private static void givesInteriorBack() {
        Check.sentence("INTERIOR is, too");
        BodyRows2 x = new BodyRows2();
        x.input(8, 1);
        x.step(30);
        x.memory(3, 4, 0);
        x.step(30);
        Check.due("given back", x.memory(3, 4, 1), 30);
        Check.due("at once", x.output(7), 30);
        Check.due("it goes on from there", x.step(1), 1);
        Check.due("INTERIOR", x.output(7), 31);
        x.input(8, 0);
        x.step(100);
        Check.due("given back", x.memory(3, 4, 1), 30);
        Check.due("and fades", x.step(10), 1);
        Check.due("INTERIOR", x.output(7), 20);
        Check.due("a KEY's INTERIOR stays", x.memory(3, 4, 1), 30);
    }

    private static void interiorAtTheEnds() {
        Check.sentence("INTERIOR is, too: 0 and 100");
        BodyRows2 x = new BodyRows2();
        Check.due("0 is remembered", x.memory(0, 4, 0), 0);
        x.input(8, 1);
        x.step(1000);
        Check.due("100 is remembered", x.memory(1, 4, 0), 100);
        Check.due("0 is given back", x.memory(0, 4, 1), 0);
        Check.due("INTERIOR", x.output(7), 0);
        x.step(1);
        Check.due("it goes on", x.output(7), 1);
        Check.due("100 is given back", x.memory(1, 4, 1), 100);
        Check.due("INTERIOR", x.output(7), 100);
        Check.due("it stays", x.step(1), 0);
        x.input(8, 0);
        x.memory(0, 4, 1);
        Check.due("0 stays", x.step(1), 0);
    }

    private static void nothingIsGivenBack() {
        Check.sentence("nothing where that is -1");
        BodyRows2 x = made();
        for (int key = 0; key < 4; key++) {
            for (int what = 0; what < 5; what++) {
                Check.due("memory(" + key + ", " + what + ", 1)", x.memory(key, what, 1), -1);
                Check.due("again", x.memory(key, what, 1), -1);
            }
        }
        unchanged(x);
        x.step(1);
        Check.due("INTERIOR goes on", x.output(7), 31);
        Check.states("the windows are where they were", x, 10, 11, 12, 13, 0, 0, 0, 0, 0, 31);
    }

    private static void answersWhatItRemembersThen() {
        Check.sentence("what it remembers then");
        BodyRows2 x = made();
        Check.due("nothing yet", x.memory(1, 0, 1), -1);
        Check.due("v = 0: what is now", x.memory(1, 0, 0), 10);
        x.window(0, 99);
        Check.due("v = 1: what it remembers, not what was", x.memory(1, 0, 1), 10);
        x.window(0, 99);
        Check.due("v = 0: what is now, not what it remembered", x.memory(1, 0, 0), 99);
        Check.due("INTERIOR, v = 0", x.memory(1, 4, 0), 30);
        x.step(5);
        Check.due("INTERIOR, v = 1", x.memory(1, 4, 1), 30);
    }

    private static void keysAreApart() {
        Check.sentence("KEYS 0 to 3 remember what = 0 to 4");
        BodyRows2 x = new BodyRows2();
        x.input(8, 1);
        for (int key = 0; key < 4; key++) {
            x.step(7);
            for (int i = 0; i < 4; i++) {
                x.window(i, 10 * key + i + 100);
                Check.due("remembers", x.memory(key, i, 0), 10 * key + i + 100);
            }
            Check.due("remembers", x.memory(key, 4, 0), 7 * key + 7);
        }
        for (int key = 0; key < 4; key++) {
            Check.due("gives back", x.memory(key, 4, 1), 7 * key + 7);
            for (int i = 0; i < 4; i++) {
                Check.due("gives back", x.memory(key, i, 1), 10 * key + i + 100);
            }
        }
    }
}
