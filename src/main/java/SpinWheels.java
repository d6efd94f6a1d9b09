/** Four reaction wheels of a spacecraft and the coils that unload them, as ../shared/DOC.md describes them. */
public final class SpinWheels {
    public static final int UNKNOWN = -1, OUTSIDE = -2, STATE = -3, FULL = -4, NONE = -9;

    private static final int WHEELS = 4;
    private static final int ALL_WHEELS = 15;
    private static final int ROWS = 6;
    private static final int LETTERS = 120;
    private static final int HEAD = 6;
    private static final int PART = 7;
    private static final int UNDOABLE = 14;
    private static final int SIGHTS = 6;
    private static final int SLOTS = 2;
    private static final int LONGEST = 99;
    private static final int SPUN_TICKS = 60;
    private static final int DUMP_TICKS = 12;
    private static final int WATCHED_TICKS = 20;
    private static final int MISSES_TO_SAFE = 3;
    private static final int SAFE = 1;

    private static final int TOP = 0;
    private static final int BAND = 1;
    private static final int GAIN = 2;
    private static final int COIL = 3;
    private static final int SETTINGS = 4;
    private static final int[] FIRST_SETTINGS = {50, 1, 1, 5};
    private static final int[] LEAST_SETTINGS = {10, 0, 0, 1};
    private static final int[] MOST_SETTINGS = {99, 9, 9, 9};

    private static final int[] AXES = {1, 1, 1, 1, -1, -1, -1, 1, -1, -1, -1, 1};
    private static final int[] STEPS = {0, -1, 1, -2, 2, -3, 3, -4, 4};

    private final Script script = new Script();
    private final Plant plant = new Plant();
    private final State now = new State();
    private final State trial = new State();
    private final History history = new History();
    private final State[] slots = new State[SLOTS];
    private final boolean[] saved = new boolean[SLOTS];
    private final Sight[] sights = new Sight[SIGHTS];
    private final int[] worth = new int[ALL_WHEELS + 1];
    private int sightCount;
    private long random;

    public SpinWheels() {
        for (int i = 0; i < SLOTS; i++) {
            slots[i] = new State();
        }
        for (int i = 0; i < SIGHTS; i++) {
            sights[i] = new Sight();
        }
    }

    // ---- the craft

    public int write(int letter) {
        if (outside(letter, 0, 255)) {
            return OUTSIDE;
        }
        return script.append((char) letter) ? script.length : FULL;
    }

    public int wipe() {
        int before = script.length;
        script.length = 0;
        return before;
    }

    public int fault() {
        return script.faultAt();
    }

    public int craft() {
        if (script.faultAt() != NONE) {
            return STATE;
        }
        now.clear();
        script.readInto(now, plant);
        history.forget();
        for (int i = 0; i < SLOTS; i++) {
            saved[i] = false;
        }
        return plant.wantCount;
    }

    public int wheel(int wheel, int what) {
        if (noWheel(wheel)) {
            return UNKNOWN;
        }
        switch (what) {
            case 0:
                return bitsOf(now.speeds[wheel]);
            case 1:
                return thousandthsOf(now.speeds[wheel]);
            case 2:
                return now.isDead(wheel) ? 1 : 0;
            case 3:
            case 4:
            case 5:
                return AXES[wheel * 3 + what - 3];
            default:
                return OUTSIDE;
        }
    }

    public int told(boolean wants, int row, int what) {
        if (row < 0 || row >= (wants ? plant.wantCount : plant.fieldCount)) {
            return UNKNOWN;
        }
        if (outside(what, 0, 2)) {
            return OUTSIDE;
        }
        return wants ? now.wants[row * 3 + what] : plant.fields[row * 3 + what];
    }

    public int momentum(int what) {
        if (outside(what, 0, 6)) {
            return OUTSIDE;
        }
        if (what == 6) {
            return bitsOf(now.spin);
        }
        return what < 3 ? bitsOf(now.momentumAlong(what)) : thousandthsOf(now.momentumAlong(what - 3));
    }

    // ---- acts

    public int tick(int n) {
        if (outside(n, 1, LONGEST)) {
            return OUTSIDE;
        }
        history.remember(now);
        plant.passMany(now, n);
        return now.mode;
    }

    public int kill(int wheel) {
        if (noWheel(wheel)) {
            return UNKNOWN;
        }
        if (now.isDead(wheel)) {
            return STATE;
        }
        history.remember(now);
        now.strike(wheel);
        return now.deadCount();
    }

    public int mend(int wheel) {
        if (noWheel(wheel)) {
            return UNKNOWN;
        }
        if (!now.isDead(wheel)) {
            return STATE;
        }
        history.remember(now);
        now.revive(wheel);
        return now.deadCount();
    }

    public int free() {
        if (now.mode != SAFE || now.deadCount() > 1) {
            return STATE;
        }
        history.remember(now);
        now.mode = 0;
        now.spin = 0f;
        now.run = 0;
        return now.deadCount();
    }

    public int set(int what, int v) {
        if (outside(what, 0, SETTINGS - 1) || outside(v, LEAST_SETTINGS[what], MOST_SETTINGS[what])) {
            return OUTSIDE;
        }
        history.remember(now);
        int before = now.settings[what];
        now.settings[what] = v;
        return before;
    }

    public int want(int row, int x, int y, int z) {
        if (row < 0 || row >= plant.wantCount) {
            return UNKNOWN;
        }
        if (outside(x, -9, 9) || outside(y, -9, 9) || outside(z, -9, 9)) {
            return OUTSIDE;
        }
        history.remember(now);
        int before = now.wants[row * 3];
        now.wants[row * 3] = x;
        now.wants[row * 3 + 1] = y;
        now.wants[row * 3 + 2] = z;
        return before;
    }

    public int undo() {
        return history.giveBack(now) ? history.held : STATE;
    }

    // ---- forecasts

    public int plan(int what) {
        if (outside(what, 0, 3)) {
            return OUTSIDE;
        }
        if (now.mode == SAFE) {
            return STATE;
        }
        plant.bend(now);
        plant.steer(now);
        switch (what) {
            case 0:
                return plant.step;
            case 1:
                return plant.near;
            case 2:
                return bitsOf(plant.height);
            default:
                return plant.misses(now) ? 1 : 0;
        }
    }

    public int next(int wheel) {
        if (noWheel(wheel)) {
            return UNKNOWN;
        }
        if (now.mode == SAFE) {
            return STATE;
        }
        plant.bend(now);
        plant.steer(now);
        return bitsOf(now.isDead(wheel) ? now.speeds[wheel] : plant.aims[wheel]);
    }

    public int ahead(int n, int wheel) {
        if (outside(n, 0, LONGEST)) {
            return OUTSIDE;
        }
        if (noWheel(wheel)) {
            return UNKNOWN;
        }
        copyNow();
        plant.passMany(trial, n);
        return bitsOf(trial.speeds[wheel]);
    }

    public int later(int n, int what) {
        if (outside(n, 0, LONGEST) || outside(what, 0, 4)) {
            return OUTSIDE;
        }
        copyNow();
        plant.passMany(trial, n);
        switch (what) {
            case 0:
                return trial.mode;
            case 1:
                return trial.missed;
            case 2:
                return trial.crossings;
            case 3:
                return trial.safeTicks;
            default:
                return trial.run;
        }
    }

    public int spun() {
        copyNow();
        for (int n = 0; n <= SPUN_TICKS; n++) {
            if (trial.mode == SAFE) {
                return n;
            }
            plant.pass(trial);
        }
        return NONE;
    }

    public int dumps() {
        int best = 0;
        float least = 0f;
        for (int gain = LEAST_SETTINGS[GAIN]; gain <= MOST_SETTINGS[GAIN]; gain++) {
            copyNow();
            trial.settings[GAIN] = gain;
            plant.passMany(trial, DUMP_TICKS);
            float size = sizeOf(trial.momentumAlong(0)) + sizeOf(trial.momentumAlong(1))
                    + sizeOf(trial.momentumAlong(2));
            if (gain == LEAST_SETTINGS[GAIN] || size < least) {
                best = gain;
                least = size;
            }
        }
        return best;
    }

    public int worst() {
        int found = NONE;
        int most = -1;
        for (int i = 0; i < WHEELS; i++) {
            if (!now.isDead(i)) {
                copyNow();
                trial.strike(i);
                int lostTicks = plant.countLost(trial, WATCHED_TICKS);
                if (lostTicks > most) {
                    found = i;
                    most = lostTicks;
                }
            }
        }
        return found;
    }

    public int judge(int n, long row) {
        if (outside(n, 1, 3) || row < 0 || row >= rowsOf(n)) {
            return OUTSIDE;
        }
        copyNow();
        for (int i = 0; i < n; i++) {
            if (!holds(statementOf(n, row, i))) {
                return i;
            }
        }
        return NONE;
    }

    // ---- observations

    public int see(int n, int what, int v, int was) {
        if (outside(n, 0, 9) || outside(what, 0, 2) || outside(v, 0, Sight.greatest(what)) || outside(was, 0, 1)) {
            return OUTSIDE;
        }
        if (sightCount >= SIGHTS) {
            return FULL;
        }
        sights[sightCount].fill(n, what, v, was);
        sightCount++;
        return sightCount;
    }

    public int unsee() {
        int before = sightCount;
        sightCount = 0;
        return before;
    }

    public int which() {
        int found = 0;
        for (int i = 0; i < WHEELS; i++) {
            if (!now.isDead(i) && explainsAll(i)) {
                found |= 1 << i;
            }
        }
        return found;
    }

    // ---- shares, probabilities

    public int share(int wheel, boolean upper) {
        if (noWheel(wheel)) {
            return UNKNOWN;
        }
        if (now.isDead(wheel)) {
            return STATE;
        }
        int alive = ALL_WHEELS & ~now.deadMask;
        int size = Integer.bitCount(alive);
        weighSets(alive);
        int over = 0;
        for (int set = 0; set <= ALL_WHEELS; set++) {
            if ((set & ~alive) == 0 && (set & 1 << wheel) == 0) {
                int before = Integer.bitCount(set);
                // so many of all orders bring just this set before the wheel
                over += factorial(before) * factorial(size - 1 - before) * (worth[set | 1 << wheel] - worth[set]);
            }
        }
        return partOfLowest(over, factorial(size), upper);
    }

    public int lost(int x, boolean upper) {
        if (outside(x, 0, 10)) {
            return OUTSIDE;
        }
        int alive = ALL_WHEELS & ~now.deadMask;
        weighSets(alive);
        int over = 0;
        for (int set = 0; set <= ALL_WHEELS; set++) {
            if ((set & ~alive) == 0 && worth[set] == WATCHED_TICKS) {
                over += power(10 - x, Integer.bitCount(set)) * power(x, Integer.bitCount(alive & ~set));
            }
        }
        return partOfLowest(over, power(10, Integer.bitCount(alive)), upper);
    }

    public long seed(long v) {
        long before = random;
        random = v;
        return before;
    }

    public int drawn(int m) {
        if (outside(m, 1, 20)) {
            return OUTSIDE;
        }
        copyNow();
        int before = trial.lostTicks();
        for (int i = 0; i < m; i++) {
            random = random * 6364136223846793005L + 1442695040888963407L;
            int v = (int) (random >>> 33);
            plant.disturb(v % 7 - 3, v / 8 % 7 - 3, v / 64 % 7 - 3);
            plant.pass(trial);
        }
        plant.disturb(0, 0, 0);
        return trial.lostTicks() - before;
    }

    // ---- slots

    public int keep(int slot) {
        if (outside(slot, 0, SLOTS - 1)) {
            return UNKNOWN;
        }
        slots[slot].copyFrom(now);
        saved[slot] = true;
        return now.clock;
    }

    public int again(int slot) {
        if (outside(slot, 0, SLOTS - 1)) {
            return UNKNOWN;
        }
        if (!saved[slot]) {
            return STATE;
        }
        now.copyFrom(slots[slot]);
        history.forget();
        return now.clock;
    }

    public int count(int what) {
        switch (what) {
            case 0:
                return script.length;
            case 1:
                return plant.wantCount;
            case 2:
                return plant.fieldCount;
            case 3:
                return now.deadMask;
            case 4:
                return now.mode;
            case 5:
                return now.clock;
            case 6:
                return now.missed;
            case 7:
                return now.crossings;
            case 8:
                return now.safeTicks;
            case 9:
                return now.run;
            case 10:
            case 11:
            case 12:
            case 13:
                return now.settings[what - 10];
            case 14:
                return history.held;
            case 15:
                return sightCount;
            default:
                return OUTSIDE;
        }
    }

    // ---- what the calls share

    private static boolean outside(int value, int least, int most) {
        return value < least || value > most;
    }

    private static boolean noWheel(int wheel) {
        return outside(wheel, 0, WHEELS - 1);
    }

    // forecasts work on the trial state, so that the present one stays as it is
    private void copyNow() {
        trial.copyFrom(now);
    }

    /** How many rows of digits there are for n statements. */
    private static long rowsOf(int n) {
        long rows = 1L;
        for (int i = 0; i < n; i++) {
            rows *= 10000L;
        }
        return rows;
    }

    private static int statementOf(int n, long row, int index) {
        long rest = row;
        for (int i = index + 1; i < n; i++) {
            rest /= 10000L;
        }
        return (int) (rest % 10000L);
    }

    /** Whether a statement holds on the trial state, which it may change. */
    private boolean holds(int statement) {
        int a = statement / 100 % 10;
        int b = statement / 10 % 10;
        int c = statement % 10;
        int kind = statement / 1000;
        if (kind == 1) {
            boolean possible = c == 0 && a + b > 0;
            plant.passMany(trial, possible ? 10 * a + b : 0);
            return possible;
        }
        if (kind == 7) {
            return c == 0 && trial.missed == 10 * a + b;
        }
        return b == 0 && holdsWithGap(kind, a, c);
    }

    /** The statements whose third digit is 0. */
    private boolean holdsWithGap(int kind, int a, int c) {
        switch (kind) {
            case 2:
                if (c != 0 || noWheel(a) || trial.isDead(a)) {
                    return false;
                }
                trial.strike(a);
                return true;
            case 3:
                if (c != 0 || noWheel(a) || !trial.isDead(a)) {
                    return false;
                }
                trial.revive(a);
                return true;
            case 4:
                return a == 0 && trial.mode == c;
            case 5:
                return !noWheel(a) && signOf(trial.speeds[a]) == c - 1;
            case 6:
                if (a == 0) {
                    trial.settings[GAIN] = c;
                }
                return a == 0;
            default:
                return false;
        }
    }

    private boolean explainsAll(int wheel) {
        boolean all = true;
        for (int i = 0; i < sightCount && i < SIGHTS && all; i++) {
            copyNow();
            trial.strike(wheel);
            plant.passMany(trial, sights[i].after);
            all = sights[i].agreesWith(trial);
        }
        return all;
    }

    /** Puts into worth, for each set of these wheels, the ticks that are not lost if just that set is alive. */
    private void weighSets(int alive) {
        for (int set = 0; set <= ALL_WHEELS; set++) {
            if ((set & ~alive) == 0) {
                copyNow();
                trial.leaveAlive(set);
                worth[set] = WATCHED_TICKS - plant.countLost(trial, WATCHED_TICKS);
            }
        }
    }

    private static int factorial(int n) {
        int product = 1;
        for (int i = 2; i <= n; i++) {
            product *= i;
        }
        return product;
    }

    private static int power(int base, int exponent) {
        int product = 1;
        for (int i = 0; i < exponent; i++) {
            product *= base;
        }
        return product;
    }

    /** The numerator or the denominator of over / under (above 0) in lowest terms. */
    private static int partOfLowest(int over, int under, boolean upper) {
        int divisor = under;
        int rest = Math.abs(over);
        for (int i = 0; i < 64 && rest != 0; i++) {
            int smaller = divisor % rest;
            divisor = rest;
            rest = smaller;
        }
        int part = upper ? over : under;
        return divisor == 0 ? part : part / divisor;
    }

    private static float sizeOf(float value) {
        return value < 0 ? -value : value;
    }

    private static int signOf(float value) {
        return value < 0 ? -1 : value > 0 ? 1 : 0;
    }

    private static int thousandthsOf(float value) {
        return (int) (value * 1000f);
    }

    // LANGUAGE.md leaves no Float.floatToIntBits. A negative zero needs no care: every float of the craft is a
    // sum that began at +0, or the size of one, and such a sum never gives -0.
    private static int bitsOf(float value) {
        float rest = sizeOf(value);
        int exponent = 127;
        for (int i = 0; i < 127 && rest >= 2f; i++) {
            rest = rest / 2f;
            exponent++;
        }
        // at exponent 1 what is still below 1 is subnormal, and has no leading bit to hide
        for (int i = 0; i < 126 && rest < 1f; i++) {
            rest = rest * 2f;
            exponent--;
        }
        int bits = (exponent - 1 << 23) + (int) (rest * 8388608f);
        return value < 0 ? bits | 1 << 31 : bits;
    }

    /** The text, and how it is read. */
    private static final class Script {
        private final char[] letters = new char[LETTERS];
        private int length;

        private boolean append(char letter) {
            if (length < 0 || length >= LETTERS) {
                return false;
            }
            letters[length] = letter;
            length++;
            return true;
        }

        private int faultAt() {
            int wants = 0;
            int fields = 0;
            for (int at = 0; at < length && at < LETTERS; at++) {
                char letter = letters[at];
                if (at >= HEAD && (at - HEAD) % PART == 0) {
                    if (letter == 'w' && wants < ROWS) {
                        wants++;
                    } else if (letter == 'f' && fields < ROWS) {
                        fields++;
                    } else {
                        return at;
                    }
                } else if (!fits(at, letter)) {
                    return at;
                }
            }
            return length >= HEAD && (length - HEAD) % PART == 0 ? NONE : length;
        }

        /** Whether a letter can stand at a place that begins no part. */
        private static boolean fits(int at, char letter) {
            if (at == 0) {
                return letter == 'K';
            }
            if (at == 1 || at == HEAD - 1) {
                return letter >= '1' && letter <= '9';
            }
            if (at >= HEAD && (at - HEAD) % PART % 2 == 1) {
                return letter == '+' || letter == '-';
            }
            return letter >= '0' && letter <= '9';
        }

        /** Reads a text without a fault. */
        private void readInto(State state, Plant plant) {
            state.settings[TOP] = digit(1) * 10 + digit(2);
            state.settings[BAND] = digit(3);
            state.settings[GAIN] = digit(4);
            state.settings[COIL] = digit(5);
            plant.wantCount = 0;
            plant.fieldCount = 0;
            for (int at = HEAD; at + PART <= length && at + PART <= LETTERS; at += PART) {
                if (letters[at] == 'w' && plant.wantCount < ROWS) {
                    readTriple(at + 1, state.wants, plant.wantCount);
                    plant.wantCount++;
                } else if (letters[at] == 'f' && plant.fieldCount < ROWS) {
                    readTriple(at + 1, plant.fields, plant.fieldCount);
                    plant.fieldCount++;
                }
            }
        }

        private void readTriple(int at, int[] triples, int row) {
            for (int k = 0; k < 3; k++) {
                int size = digit(at + 2 * k + 1);
                triples[row * 3 + k] = letters[at + 2 * k] == '-' ? -size : size;
            }
        }

        private int digit(int at) {
            return letters[at] - '0';
        }
    }

    /** All that acts change, undo() gives back and slots save. */
    private static final class State {
        private final float[] speeds = new float[WHEELS];
        private final int[] settings = new int[SETTINGS];
        private final int[] wants = new int[ROWS * 3];
        private int deadMask;
        private int mode;
        private float spin;
        private int missed;
        private int crossings;
        private int safeTicks;
        private int run;
        private int clock;

        private State() {
            System.arraycopy(FIRST_SETTINGS, 0, settings, 0, SETTINGS);
        }

        private void clear() {
            for (int i = 0; i < WHEELS; i++) {
                speeds[i] = 0f;
            }
            deadMask = 0;
            mode = 0;
            spin = 0f;
            missed = 0;
            crossings = 0;
            safeTicks = 0;
            run = 0;
            clock = 0;
        }

        private void copyFrom(State other) {
            System.arraycopy(other.speeds, 0, speeds, 0, WHEELS);
            System.arraycopy(other.settings, 0, settings, 0, SETTINGS);
            System.arraycopy(other.wants, 0, wants, 0, ROWS * 3);
            deadMask = other.deadMask;
            mode = other.mode;
            spin = other.spin;
            missed = other.missed;
            crossings = other.crossings;
            safeTicks = other.safeTicks;
            run = other.run;
            clock = other.clock;
        }

        private boolean isDead(int wheel) {
            return (deadMask & 1 << wheel) != 0;
        }

        private int deadCount() {
            return Integer.bitCount(deadMask);
        }

        private void strike(int wheel) {
            deadMask |= 1 << wheel;
            spinIfCrippled();
        }

        private void revive(int wheel) {
            deadMask &= ~(1 << wheel);
        }

        private void leaveAlive(int set) {
            deadMask = ALL_WHEELS & ~set;
            spinIfCrippled();
        }

        private void spinIfCrippled() {
            if (deadCount() > 1) {
                mode = SAFE;
            }
        }

        private int lostTicks() {
            return missed + safeTicks;
        }

        private float momentumAlong(int k) {
            return AXES[k] * speeds[0] + AXES[3 + k] * speeds[1] + AXES[6 + k] * speeds[2] + AXES[9 + k] * speeds[3];
        }
    }

    /** The tick, with the fields, which no act changes, and rows that are made once and used by every tick. */
    private static final class Plant {
        private final int[] fields = new int[ROWS * 3];
        private int fieldCount;
        private int wantCount;
        private final int[] extra = new int[3];
        private final int[] bent = new int[WHEELS * 3];
        private final float[] pushes = new float[WHEELS];
        private final float[] aims = new float[WHEELS];
        private int step;
        private int near;
        private float height;

        private void disturb(int x, int y, int z) {
            extra[0] = x;
            extra[1] = y;
            extra[2] = z;
        }

        private void passMany(State state, int n) {
            for (int i = 0; i < n; i++) {
                pass(state);
            }
        }

        private int countLost(State state, int n) {
            // no tick ends the safe mode
            if (state.mode == SAFE) {
                return n;
            }
            int before = state.lostTicks();
            for (int i = 0; i < n; i++) {
                pass(state);
            }
            return state.lostTicks() - before;
        }

        private void pass(State state) {
            bend(state);
            if (state.mode == SAFE) {
                state.spin = state.spin + (2f - state.spin) * 0.25f;
                state.safeTicks++;
            } else {
                steer(state);
                drive(state);
            }
            if (state.deadCount() <= 1) {
                unload(state);
            }
            state.clock++;
        }

        /** Finds, with bent axes, the step, near, the height and the speeds aimed at; the state stays as it is. */
        private void steer(State state) {
            push(state);
            int best = STEPS[0];
            weigh(state, best);
            if (state.deadMask == 0) {
                int bestNear = near;
                float bestHeight = height;
                for (int i = 1; i < STEPS.length; i++) {
                    weigh(state, STEPS[i]);
                    if (near < bestNear || near == bestNear && height < bestHeight) {
                        best = STEPS[i];
                        bestNear = near;
                        bestHeight = height;
                    }
                }
                weigh(state, best);
            }
            step = best;
        }

        /** Makes the axes b, which stay the same for a whole tick: no tick kills. */
        private void bend(State state) {
            boolean one = state.deadCount() == 1;
            for (int k = 0; k < 3; k++) {
                int less = 0;
                for (int i = 0; i < WHEELS; i++) {
                    if (one && state.isDead(i)) {
                        less = AXES[i * 3 + k];
                    }
                }
                for (int i = 0; i < WHEELS; i++) {
                    bent[i * 3 + k] = AXES[i * 3 + k] - less;
                }
            }
        }

        private void push(State state) {
            int x = component(state.wants, wantCount, state.clock, 0) + extra[0];
            int y = component(state.wants, wantCount, state.clock, 1) + extra[1];
            int z = component(state.wants, wantCount, state.clock, 2) + extra[2];
            for (int i = 0; i < WHEELS; i++) {
                pushes[i] = (bent[i * 3] * x + bent[i * 3 + 1] * y + bent[i * 3 + 2] * z) / 4f;
            }
        }

        private static int component(int[] triples, int rows, int clock, int k) {
            return rows > 0 && clock >= 0 ? triples[clock % rows * 3 + k] : 0;
        }

        private void weigh(State state, int c) {
            near = 0;
            height = 0f;
            for (int i = 0; i < WHEELS; i++) {
                if (!state.isDead(i)) {
                    float aim = state.speeds[i] + (pushes[i] + c);
                    float size = sizeOf(aim);
                    aims[i] = aim;
                    if (size < state.settings[BAND]) {
                        near++;
                    }
                    if (size > height) {
                        height = size;
                    }
                }
            }
        }

        private boolean misses(State state) {
            return height > state.settings[TOP];
        }

        private void drive(State state) {
            if (misses(state)) {
                state.missed++;
                state.run++;
                if (state.run >= MISSES_TO_SAFE) {
                    state.mode = SAFE;
                    state.run = 0;
                }
                return;
            }
            state.run = 0;
            for (int i = 0; i < WHEELS; i++) {
                if (!state.isDead(i)) {
                    if (signOf(state.speeds[i]) * signOf(aims[i]) < 0) {
                        state.crossings++;
                    }
                    state.speeds[i] = aims[i];
                }
            }
        }

        private void unload(State state) {
            int x = component(fields, fieldCount, state.clock, 0);
            int y = component(fields, fieldCount, state.clock, 1);
            int z = component(fields, fieldCount, state.clock, 2);
            float p = state.momentumAlong(0);
            float q = state.momentumAlong(1);
            float r = state.momentumAlong(2);
            int gain = state.settings[GAIN];
            int coil = state.settings[COIL];
            float u = limited(gain * (y * r - z * q) / 16f, coil);
            float v = limited(gain * (z * p - x * r) / 16f, coil);
            float w = limited(gain * (x * q - y * p) / 16f, coil);
            turn(state, (w * y - v * z) / 64f, (u * z - w * x) / 64f, (v * x - u * y) / 64f);
        }

        /** Lets the wheels take up what the coils give. */
        private void turn(State state, float p, float q, float r) {
            for (int i = 0; i < WHEELS; i++) {
                if (!state.isDead(i)) {
                    float gained = (bent[i * 3] * p + bent[i * 3 + 1] * q + bent[i * 3 + 2] * r) / 4f;
                    state.speeds[i] = limited(state.speeds[i] + gained, state.settings[TOP]);
                }
            }
        }

        private static float limited(float value, int most) {
            return value > most ? most : value < -most ? -most : value;
        }
    }

    /** The states before the latest acts, in a ring. */
    private static final class History {
        private final State[] past = new State[UNDOABLE];
        private int held;
        private int end;

        private History() {
            for (int i = 0; i < UNDOABLE; i++) {
                past[i] = new State();
            }
        }

        private void remember(State state) {
            past[end].copyFrom(state);
            end = (end + 1) % UNDOABLE;
            held = Math.min(held + 1, UNDOABLE);
        }

        private boolean giveBack(State state) {
            if (held <= 0) {
                return false;
            }
            end = (end + UNDOABLE - 1) % UNDOABLE;
            held--;
            state.copyFrom(past[end]);
            return true;
        }

        private void forget() {
            held = 0;
        }
    }

    /** An observation. */
    private static final class Sight {
        private int after;
        private int what;
        private int value;
        private boolean was;

        /** The greatest v that an observation of this kind has. */
        private static int greatest(int what) {
            return what == 0 ? 1 : what == 1 ? 99 : WHEELS - 1;
        }

        private void fill(int n, int kind, int v, int is) {
            after = n;
            what = kind;
            value = v;
            was = is == 1;
        }

        private boolean agreesWith(State state) {
            return isSo(state) == was;
        }

        private boolean isSo(State state) {
            if (what == 0) {
                return state.mode == value;
            }
            if (what == 1) {
                return state.missed == value;
            }
            return !noWheel(value) && state.speeds[value] < 0;
        }
    }
}
