/**
 * The body of a car: lights, bulbs, turn signs, wiper, windows, interior light, loads, keys, a crash.
 *
 * The outputs are never kept: they follow from the state at every look, so that no call can leave
 * one of them behind.
 */
public final class BodyRows2 {
    private static final int UNKNOWN = -1;
    private static final int OUTSIDE = -2;
    private static final int WRONG_STATE = -3;
    private static final int NO_ROOM = -4;

    private static final int LIGHT = 0;
    private static final int BRIGHT = 1;
    private static final int TURN = 2;
    private static final int HAZARD = 3;
    private static final int WIPER = 4;
    private static final int IGNITION = 5;
    private static final int BEAM = 6;
    private static final int HORN = 7;
    private static final int DOOR = 8;
    private static final int KINDS = 9;
    private static final int[] GREATEST_INPUT = {3, 1000, 2, 1, 3, 1, 1, 1, 1};

    private static final int LIGHT_PARKING = 1;
    private static final int LIGHT_LOW = 2;
    private static final int LIGHT_BY_DARK = 3;
    private static final int BRIGHT_AT_FIRST = 1000;
    private static final int DARK_BELOW = 200;
    private static final int DARK_ENDS_ABOVE = 400;

    private static final int WIPER_BY_RAIN = 1;
    private static final int WIPER_SLOW = 2;
    private static final int WIPER_FAST = 3;
    private static final int MOST_RAIN = 9;
    private static final int FAST_RAIN = 8;
    private static final int MOST_PAUSING_RAIN = 4;

    private static final int OUTPUTS = 10;
    private static final int MOST_TICKS = 1000;
    private static final int MOST_FORCE = 1000;
    private static final int MOST_INTERIOR = 100;

    private static final int SIDES = 2;
    private static final int BULBS = 6;
    private static final int FIRST_TURN_BULB = 4;
    private static final int[] SUBSTITUTES = {1, 0, 3, 2, 0, 1};

    private static final int WINDOWS = 4;
    private static final int KEYS = 4;
    private static final int REMEMBERED = 5;
    private static final int NOTHING_REMEMBERED = -1;

    private static final int MOST_VOLT = 20000;
    private static final int MOST_RANK = 9;

    private final int[] inputs;
    private final int[] outputsBefore;
    private final boolean[] bulbIsOut;
    private final Side[] sides;
    private final Wiper wiper;
    private final Window[] windows;
    private final Loads loads;
    private final int[][] keys;
    private int rainfall;
    private int interior;
    private int ticks;
    private boolean dark;
    private boolean crashed;
    private boolean hasTrailer;

    public BodyRows2() {
        inputs = new int[KINDS];
        inputs[BRIGHT] = BRIGHT_AT_FIRST;
        outputsBefore = new int[OUTPUTS];
        bulbIsOut = new boolean[BULBS];
        sides = new Side[SIDES];
        for (int side = 0; side < SIDES; side++) {
            sides[side] = new Side();
        }
        wiper = new Wiper();
        windows = new Window[WINDOWS];
        for (int i = 0; i < WINDOWS; i++) {
            windows[i] = new Window();
        }
        loads = new Loads();
        keys = new int[KEYS][REMEMBERED];
        for (int key = 0; key < KEYS; key++) {
            for (int what = 0; what < REMEMBERED; what++) {
                keys[key][what] = NOTHING_REMEMBERED;
            }
        }
    }

    public int input(int kind, int v) {
        if (!isBelow(kind, KINDS)) {
            return UNKNOWN;
        }
        if (!isUpTo(v, GREATEST_INPUT[kind])) {
            return OUTSIDE;
        }
        noteOutputs();
        inputs[kind] = v;
        if (kind == BRIGHT) {
            followBrightness(v);
        }
        beginWantedSides();
        if (kind == TURN && v != 0) {
            endUnwantedSide(SIDES - v);
        }
        return countChangedOutputs();
    }

    public int output(int i) throws IndexOutOfBoundsException {
        if (!isBelow(i, OUTPUTS)) {
            throw new IndexOutOfBoundsException("there is no such output");
        }
        return outputNow(i);
    }

    public int step(int t) {
        if (!isUpTo(t, MOST_TICKS)) {
            return OUTSIDE;
        }
        noteOutputs();
        for (int n = 0; n < t; n++) {
            tick();
        }
        return countChangedOutputs();
    }

    public int pinch(int glass, int force) {
        if (!isBelow(glass, WINDOWS)) {
            return UNKNOWN;
        }
        if (!isUpTo(force, MOST_FORCE)) {
            return OUTSIDE;
        }
        return bit(windows[glass].reverseAt(force));
    }

    public int learn(int motor) {
        if (!isBelow(motor, WINDOWS)) {
            return UNKNOWN;
        }
        return bit(windows[motor].learnAtEnd());
    }

    public int shed(int volt) {
        if (!isUpTo(volt, MOST_VOLT)) {
            return OUTSIDE;
        }
        loads.measure(volt);
        return loads.countOff();
    }

    public int load(int rank, boolean legal) {
        if (!isUpTo(rank, MOST_RANK)) {
            return OUTSIDE;
        }
        return loads.add(rank, legal);
    }

    public int isOn(int load) {
        if (!loads.has(load)) {
            return UNKNOWN;
        }
        return bit(loads.runs(load));
    }

    public int bulb(int i, boolean works) {
        if (!isBelow(i, BULBS)) {
            return UNKNOWN;
        }
        bulbIsOut[i] = !works;
        int substitute = SUBSTITUTES[i];
        return works || bulbIsOut[substitute] ? 0 : substitute + 1;
    }

    public int rain(int n) {
        if (!isUpTo(n, MOST_RAIN)) {
            return OUTSIDE;
        }
        int was = rainfall;
        rainfall = n;
        return was;
    }

    public int window(int i, int wish) {
        if (!isBelow(i, WINDOWS)) {
            return UNKNOWN;
        }
        if (!isUpTo(wish, Window.CLOSED)) {
            return OUTSIDE;
        }
        windows[i].wish = wish;
        return windows[i].ticksToWish();
    }

    public int crash() {
        if (crashed) {
            return WRONG_STATE;
        }
        noteOutputs();
        crashed = true;
        beginWantedSides();
        for (int i = 0; i < WINDOWS; i++) {
            windows[i].wish = Window.OPEN;
        }
        return countChangedOutputs();
    }

    public int memory(int key, int what, int v) {
        if (!isBelow(key, KEYS)) {
            return UNKNOWN;
        }
        if (!isBelow(what, REMEMBERED) || !isUpTo(v, 1)) {
            return OUTSIDE;
        }
        if (v == 0) {
            keys[key][what] = what < WINDOWS ? windows[what].wish : interior;
        } else {
            giveBack(what, keys[key][what]);
        }
        return keys[key][what];
    }

    public int trailer(boolean on) {
        noteOutputs();
        hasTrailer = on;
        return countChangedOutputs();
    }

    public int state(int what) {
        switch (what) {
            case 0:
            case 1:
            case 2:
            case 3:
                return windows[what].place;
            case 4:
                return wiper.place;
            case 5:
                return wiper.pause;
            case 6:
            case 7:
                return sides[what - 6].count;
            case 8:
                return bit(dark);
            case 9:
                return ticks;
            default:
                return OUTSIDE;
        }
    }

    private static boolean isBelow(int number, int count) {
        return number >= 0 && number < count;
    }

    private static boolean isUpTo(int value, int greatest) {
        return value >= 0 && value <= greatest;
    }

    private static int bit(boolean holds) {
        return holds ? 1 : 0;
    }

    private void noteOutputs() {
        for (int i = 0; i < OUTPUTS; i++) {
            outputsBefore[i] = outputNow(i);
        }
    }

    private int countChangedOutputs() {
        int changed = 0;
        for (int i = 0; i < OUTPUTS; i++) {
            if (outputNow(i) != outputsBefore[i]) {
                changed++;
            }
        }
        return changed;
    }

    private int outputNow(int i) {
        switch (i) {
            case 0:
                return bit(isParkingLit());
            case 1:
                return bit(isLowLit());
            case 2:
                return bit(isLowLit() && inputs[BEAM] == 1);
            case 3:
            case 4:
                return bit(isSideLit(i - 3));
            case 5:
                return wiper.went;
            case 6:
                return inputs[HORN];
            case 7:
                return interior;
            case 8:
            case 9:
                return bit(hasTrailer && isSideLit(i - 8));
            default:
                return 0;
        }
    }

    private boolean isParkingLit() {
        return crashed || inputs[LIGHT] == LIGHT_PARKING || wantsLow();
    }

    private boolean isLowLit() {
        return inputs[IGNITION] == 1 && wantsLow();
    }

    private boolean wantsLow() {
        return inputs[LIGHT] == LIGHT_LOW || inputs[LIGHT] == LIGHT_BY_DARK && dark;
    }

    /** Between the two bounds DARK stays what it was, so that lights do not flicker at dusk. */
    private void followBrightness(int bright) {
        if (bright < DARK_BELOW) {
            dark = true;
        } else if (bright > DARK_ENDS_ABOVE) {
            dark = false;
        }
    }

    private boolean isSideLit(int side) {
        return sides[side].isBright(turnBulbIsOut(side));
    }

    private boolean turnBulbIsOut(int side) {
        return bulbIsOut[FIRST_TURN_BULB + side];
    }

    private boolean isWanted(int side) {
        return crashed || inputs[HAZARD] == 1 || inputs[TURN] == side + 1;
    }

    private void beginWantedSides() {
        for (int side = 0; side < SIDES; side++) {
            if (isWanted(side)) {
                sides[side].begin();
            }
        }
    }

    private void endUnwantedSide(int side) {
        if (isBelow(side, SIDES) && !isWanted(side)) {
            sides[side].blinks = false;
        }
    }

    private void tick() {
        for (int side = 0; side < SIDES; side++) {
            sides[side].tick(turnBulbIsOut(side), isWanted(side));
        }
        wiper.tick(wiperSpeed(), pauseAfterWiping());
        tickInterior();
        for (int i = 0; i < WINDOWS; i++) {
            windows[i].tick();
        }
        ticks++;
    }

    private int wiperSpeed() {
        if (inputs[IGNITION] == 0) {
            return 0;
        }
        switch (inputs[WIPER]) {
            case WIPER_BY_RAIN:
                return rainSpeed();
            case WIPER_SLOW:
                return 1;
            case WIPER_FAST:
                return 2;
            default:
                return 0;
        }
    }

    private int rainSpeed() {
        if (rainfall == 0) {
            return 0;
        }
        return rainfall < FAST_RAIN ? 1 : 2;
    }

    private int pauseAfterWiping() {
        boolean pauses = inputs[WIPER] == WIPER_BY_RAIN && rainfall >= 1 && rainfall <= MOST_PAUSING_RAIN;
        return pauses ? 400 - 80 * rainfall : 0;
    }

    private void tickInterior() {
        if (crashed || inputs[DOOR] == 1) {
            interior = Math.min(interior + 1, MOST_INTERIOR);
        } else {
            interior = Math.max(interior - 1, 0);
        }
    }

    private void giveBack(int what, int remembered) {
        if (remembered == NOTHING_REMEMBERED) {
            return;
        }
        if (isBelow(what, WINDOWS)) {
            windows[what].wish = remembered;
        } else {
            interior = remembered;
        }
    }

    /** One side's turn sign. */
    private static final class Side {
        private static final int PERIOD = 80;
        private static final int PERIOD_WITHOUT_BULB = 40;
        private static final int LEAST_COUNT = 3;

        private boolean blinks;
        private int age;
        private int count;

        private void begin() {
            if (!blinks) {
                blinks = true;
                age = 0;
                count = 0;
            }
        }

        /** A side ends only where a period does, so that its last sign is a whole one. */
        private void tick(boolean bulbOut, boolean wanted) {
            if (!blinks) {
                return;
            }
            age++;
            if (age >= period(bulbOut)) {
                age = 0;
                count++;
                blinks = wanted || count < LEAST_COUNT;
            }
        }

        private boolean isBright(boolean bulbOut) {
            return blinks && age < period(bulbOut) / 2;
        }

        private static int period(boolean bulbOut) {
            return bulbOut ? PERIOD_WITHOUT_BULB : PERIOD;
        }
    }

    /** The wiper, parked at place 0. */
    private static final class Wiper {
        private static final int FULL_TURN = 100;

        private int place;
        private int pause;
        private int went;

        private void tick(int speed, int pauseWhenParked) {
            went = 0;
            if (place == 0 && staysParked(speed)) {
                return;
            }
            // A wiper that is switched off on its way still has to reach its park.
            went = Math.max(speed, 1);
            place += went;
            if (place >= FULL_TURN) {
                place = 0;
                pause = pauseWhenParked;
            }
        }

        private boolean staysParked(int speed) {
            if (speed == 0) {
                pause = 0;
                return true;
            }
            if (pause > 0) {
                pause--;
                return true;
            }
            return false;
        }
    }

    /** A window between open and closed. */
    private static final class Window {
        private static final int OPEN = 0;
        private static final int CLOSED = 200;
        private static final int HARMLESS_FORCE = 100;
        private static final int WAY_BACK = 60;

        private int place;
        private int wish;
        private boolean learned;

        private void tick() {
            if (place < wish) {
                place = Math.min(place + speed(), wish);
            } else {
                place = Math.max(place - speed(), wish);
            }
        }

        private int ticksToWish() {
            int way = Math.abs(wish - place);
            return learned ? (way + 1) / 2 : way;
        }

        private int speed() {
            return learned ? 2 : 1;
        }

        private boolean reverseAt(int force) {
            if (wish <= place || force <= HARMLESS_FORCE) {
                return false;
            }
            wish = Math.max(place - WAY_BACK, OPEN);
            return true;
        }

        private boolean learnAtEnd() {
            boolean atEnd = place == wish && (place == OPEN || place == CLOSED);
            learned = learned || atEnd;
            return atEnd;
        }
    }

    /** The loads, numbered from 1 on: number n stands in the rows at n - 1. */
    private static final class Loads {
        private static final int MOST = 12;
        private static final int NONE = -1;
        private static final int LOW_BELOW = 11500;
        private static final int HIGH_ABOVE = 12500;
        private static final int IN_A_ROW = 3;

        private final int[] ranks = new int[MOST];
        private final boolean[] legal = new boolean[MOST];
        private final boolean[] off = new boolean[MOST];
        private int size;
        private int low;
        private int high;

        private int add(int rank, boolean isLegal) {
            if (size >= MOST) {
                return NO_ROOM;
            }
            ranks[size] = rank;
            legal[size] = isLegal;
            size++;
            return size;
        }

        private boolean has(int number) {
            return number >= 1 && number <= size;
        }

        private boolean runs(int number) {
            return has(number) && !off[number - 1];
        }

        private int countOff() {
            int count = 0;
            for (int i = 0; i < size; i++) {
                if (off[i]) {
                    count++;
                }
            }
            return count;
        }

        private void measure(int volt) {
            low = volt < LOW_BELOW ? low + 1 : 0;
            high = volt > HIGH_ABOVE ? high + 1 : 0;
            if (low >= IN_A_ROW) {
                low = 0;
                setOff(findNextToShed(), true);
            }
            if (high >= IN_A_ROW) {
                high = 0;
                setOff(findNextToRestore(), false);
            }
        }

        private void setOff(int i, boolean isOff) {
            if (i != NONE) {
                off[i] = isOff;
            }
        }

        private int findNextToShed() {
            int found = NONE;
            for (int i = 0; i < size; i++) {
                if (!off[i] && !legal[i] && (found == NONE || ranks[i] >= ranks[found])) {
                    found = i;
                }
            }
            return found;
        }

        private int findNextToRestore() {
            int found = NONE;
            for (int i = 0; i < size; i++) {
                if (off[i] && (found == NONE || ranks[i] < ranks[found])) {
                    found = i;
                }
            }
            return found;
        }
    }
}
