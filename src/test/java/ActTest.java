/** Promises 9 to 15: the acts, and the tick's steps. */
public final class ActTest {
    /** With band 0 and gain 0: the speeds grow to (13.25, -13.75, -13.75, -13.75) in the third tick. */
    private static final String GROWING = "K10005w+9+9+9";

    public static void main(String[] args) {
        tickTakesTheStep();
        tickKeepsOffZero();
        tickUnloads();
        tickUnloadsWithThree();
        tickMisses();
        tickLimits();
        tickCrosses();
        tickInSafeMode();
        tickTakesRowsInTurn();
        tickFadesToTheLeastFloat();
        tickErrors();
        kill();
        mend();
        free();
        set();
        want();
        undo();
        undoGivesAllBack();
        Due.end("ActTest");
    }

    private static void speeds(String when, SpinWheels x, float... due) {
        for (int i = 0; i < due.length; i++) {
            Due.sameFloat(when + ": wheel(" + i + ", 0)", x.wheel(i, 0), due[i]);
        }
    }

    private static void counts(String when, SpinWheels x, int... pairs) {
        for (int i = 0; i < pairs.length; i += 2) {
            Due.same(when + ": count(" + pairs[i] + ")", x.count(pairs[i]), pairs[i + 1]);
        }
    }

    private static void tickTakesTheStep() {
        SpinWheels x = Due.craft("K50115w+5-3+2");
        Due.same("tick(1)", x.tick(1), 0);
        speeds("step 1", x, 2f, 2.5f, -1.5f, 1f);
        Due.same("tick(8)", x.tick(8), 0);
        counts("nine ticks", x, 5, 9, 6, 0, 14, 2);
        // with a dead wheel the axes are bent and the step is 0: b = (2, 2, 0), (2, 0, -2), (0, 2, -2)
        x = Due.craft("K50115w+5-3+2");
        x.kill(3);
        x.tick(1);
        speeds("three wheels", x, 1f, 1.5f, -2.5f, 0f);
    }

    private static void tickKeepsOffZero() {
        SpinWheels x = new SpinWheels();
        x.tick(1);
        speeds("band 1", x, -1f, -1f, -1f, -1f);
        x.undo();
        x.set(1, 0);
        x.tick(1);
        speeds("band 0", x, 0f, 0f, 0f, 0f);
        x.set(1, 3);
        x.tick(1);
        speeds("band 3", x, -3f, -3f, -3f, -3f);
        x.set(1, 9);
        x.tick(1);
        // near stays 4 whatever the step: the height alone decides
        speeds("band 9", x, 0f, 0f, 0f, 0f);
    }

    private static void tickUnloads() {
        SpinWheels x = Due.craft("K50015w+4+0+0f+0+0+8");
        x.tick(1);
        speeds("v is 2", x, 0.9375f, 0.9375f, -0.9375f, -0.9375f);
        x = Due.craft("K50011w+4+0+0f+0+0+8");
        x.tick(1);
        speeds("v is limited to 1", x, 0.96875f, 0.96875f, -0.96875f, -0.96875f);
        x = Due.craft("K50011w-4+0+0f+0+0+8");
        x.tick(1);
        speeds("v is limited to -1", x, -0.96875f, -0.96875f, 0.96875f, 0.96875f);
        x = Due.craft("K50005w+4+0+0f+0+0+8");
        x.tick(1);
        speeds("gain 0", x, 1f, 1f, -1f, -1f);
        // field (2, 0, 0) and momentum (0, 4, 8): v = -1, w = 0.5, Q = -1 / 64, R = -2 / 64
        x = Due.craft("K50019w+0+4+8f+2+0+0");
        x.tick(1);
        speeds("along y and z", x, 3f - 3f / 256f, -3f + 3f / 256f, -1f + 1f / 256f, 1f - 1f / 256f);
        // field (0, 2, 0) and momentum (4, 0, 8): u = 1, w = -0.5
        x = Due.craft("K50019w+4+0+8f+0+2+0");
        x.tick(1);
        speeds("along x and z", x, 3f - 3f / 256f, -1f + 1f / 256f, -3f + 3f / 256f, 1f - 1f / 256f);
    }

    private static void tickUnloadsWithThree() {
        SpinWheels x = Due.craft("K50015w+4+0+0f+0+0+8");
        x.kill(3);
        x.tick(1);
        // speeds (2, 2, 0), momentum (4, 0, 0), P = -0.25
        speeds("three wheels", x, 2f - 0.125f, 2f - 0.125f, 0f, 0f);
        x.kill(2);
        x.tick(5);
        speeds("two wheels: the coils rest", x, 2f - 0.125f, 2f - 0.125f, 0f, 0f);
        x.mend(2);
        Due.same("tick(1) in safe mode", x.tick(1), 1);
        // momentum (3.75, 0, 0): v = 1.875, P = -15 / 64
        speeds("the coils work in safe mode", x, 1.875f - 0.1171875f, 1.875f - 0.1171875f, 0f, 0f);
    }

    private static void tickMisses() {
        SpinWheels x = Due.craft(GROWING);
        x.tick(1);
        speeds("first", x, 4.75f, -4.25f, -4.25f, -4.25f);
        x.tick(1);
        speeds("second", x, 9.5f, -8.5f, -8.5f, -8.5f);
        Due.same("first miss", x.tick(1), 0);
        counts("first miss", x, 4, 0, 5, 3, 6, 1, 9, 1);
        speeds("first miss", x, 9.5f, -8.5f, -8.5f, -8.5f);
        Due.same("second miss", x.tick(1), 0);
        counts("second miss", x, 4, 0, 6, 2, 9, 2);
        x.want(0, 0, 0, 0);
        x.tick(1);
        counts("no miss", x, 4, 0, 6, 2, 9, 0);
        x.undo();
        x.undo();
        Due.same("third miss", x.tick(1), 1);
        counts("third miss", x, 4, 1, 5, 5, 6, 3, 8, 0, 9, 0);
        speeds("third miss", x, 9.5f, -8.5f, -8.5f, -8.5f);
        // a height that is just the top is no miss; with wheel 3 dead the speeds grow by (2, 2, 0)
        x = Due.craft("K10005w+4+0+0");
        x.kill(3);
        x.tick(5);
        speeds("at the top", x, 10f, 10f, 0f, 0f);
        counts("at the top", x, 6, 0);
        x.tick(1);
        counts("above the top", x, 6, 1);
    }

    private static void tickLimits() {
        SpinWheels x = Due.craft("K50005w+9+9+9");
        x.tick(3);
        x.set(0, 10);
        speeds("a smaller top alone", x, 13.25f, -13.75f, -13.75f, -13.75f);
        x.tick(1);
        counts("limited", x, 6, 1);
        speeds("limited", x, 10f, -10f, -10f, -10f);
        x.undo();
        x.kill(0);
        x.tick(1);
        speeds("a dead wheel is not limited", x, 13.25f, -10f, -10f, -10f);
        x.undo();
        x.kill(1);
        x.tick(1);
        speeds("with two dead wheels none is limited", x, 13.25f, -13.75f, -13.75f, -13.75f);
        x.mend(0);
        x.mend(1);
        x.tick(1);
        speeds("in safe mode they are", x, 10f, -10f, -10f, -10f);
    }

    private static void tickCrosses() {
        SpinWheels x = Due.craft("K50015w+4+0+0w-8+0+0w+4+0+0w+4+0+0w-4-4+0");
        x.tick(1);
        counts("from 0", x, 7, 0);
        x.tick(1);
        speeds("to the other side", x, -1f, -1f, 1f, 1f);
        counts("to the other side", x, 7, 4);
        x.tick(1);
        speeds("to 0", x, 0f, 0f, 0f, 0f);
        counts("to 0", x, 7, 4);
        x.tick(1);
        x.tick(1);
        // (1, 1, -1, -1) and (-2, 0, 0, 2)
        speeds("two of them", x, -1f, 1f, -1f, 1f);
        counts("two of them", x, 7, 6);
        x = Due.craft("K10015w+4+0+0w-8+0+0w+9+9+9");
        x.tick(1);
        x.set(2, 0);
        x.kill(0);
        x.tick(1);
        // wheel 0 is dead and crosses nothing; wheel 1 only grows
        counts("three wheels", x, 3, 1, 7, 2);
    }

    private static void tickInSafeMode() {
        SpinWheels x = Due.craft("K50005w+4+0+0");
        x.tick(1);
        x.kill(1);
        x.kill(2);
        Due.same("tick(1)", x.tick(1), 1);
        Due.sameFloat("spin", x.momentum(6), 0.5f);
        speeds("commands do not matter", x, 1f, 1f, -1f, -1f);
        x.tick(2);
        Due.sameFloat("spin", x.momentum(6), 1.15625f);
        counts("safe", x, 4, 1, 5, 4, 6, 0, 8, 3, 9, 0);
        x.tick(99);
        Due.sameFloat("spin at last", x.momentum(6), spinAfter(102));
        counts("safe", x, 5, 103, 8, 102);
    }

    private static float spinAfter(int n) {
        float spin = 0f;
        for (int i = 0; i < n; i++) {
            spin = spin + (2f - spin) * 0.25f;
        }
        return spin;
    }

    private static void tickTakesRowsInTurn() {
        SpinWheels x = Due.craft("K50009w+4+0+0w+0+4+0w+0+0+4f+0+0+8f+0+8+0");
        float[][] due = {{4f, 0f, 0f}, {4f, 4f, 0f}, {4f, 4f, 4f}, {8f, 4f, 4f}};
        for (int t = 0; t < due.length; t++) {
            x.tick(1);
            for (int k = 0; k < 3; k++) {
                Due.sameFloat("tick " + t + ": momentum(" + k + ")", x.momentum(k), due[t][k]);
            }
        }
        x.want(0, 0, 0, 0);
        x.want(1, 0, 0, 0);
        x.want(2, 0, 0, 0);
        x.set(2, 1);
        // clock 4, field (0, 0, 8): u = -2, v = 4, P = -0.5, Q = -0.25
        x.tick(1);
        Due.sameFloat("first field: p", x.momentum(0), 7.5f);
        Due.sameFloat("first field: q", x.momentum(1), 3.75f);
        Due.sameFloat("first field: r", x.momentum(2), 4f);
        // clock 5, field (0, 8, 0): u = 2, w = -3.75, P = -15 / 32, R = -0.25
        x.tick(1);
        Due.sameFloat("second field: p", x.momentum(0), 7.03125f);
        Due.sameFloat("second field: q", x.momentum(1), 3.75f);
        Due.sameFloat("second field: r", x.momentum(2), 3.75f);
    }

    private static void tickFadesToTheLeastFloat() {
        // gain 4 and a field of (9, 9, 9): each tick takes most of what stands across it, down to subnormal floats
        SpinWheels x = Due.craft("K50045w+1-1+0f+9+9+9");
        x.tick(1);
        x.want(0, 0, 0, 0);
        float b = Float.intBitsToFloat(x.wheel(1, 0));
        boolean subnormal = false;
        for (int i = 0; i < 60; i++) {
            float p = 0f + b - (-b) - 0f;
            float w = 4 * (9 * -p - 9 * p) / 16f;
            float u = 4 * (9 * 0f - 9 * -p) / 16f;
            float v = 4 * (9 * p - 9 * 0f) / 16f;
            float gone = ((w * 9 - v * 9) / 64f - (u * 9 - w * 9) / 64f - (v * 9 - u * 9) / 64f) / 4f;
            b = b + gone;
            x.tick(1);
            Due.sameFloat("tick " + i + ": wheel(1, 0)", x.wheel(1, 0), b);
            subnormal |= b != 0f && Math.abs(b) < Float.MIN_NORMAL;
        }
        Due.isTrue("no speed became subnormal", subnormal);
    }

    private static void tickErrors() {
        SpinWheels x = new SpinWheels();
        Due.same("tick(0)", x.tick(0), -2);
        Due.same("tick(100)", x.tick(100), -2);
        Due.same("tick(-1)", x.tick(-1), -2);
        counts("no act", x, 5, 0, 14, 0);
        Due.same("tick(99)", x.tick(99), 0);
        counts("one act", x, 5, 99, 14, 1);
    }

    private static void kill() {
        SpinWheels x = Due.craft(GROWING);
        x.tick(4);
        Due.same("kill(-1)", x.kill(-1), -1);
        Due.same("kill(4)", x.kill(4), -1);
        Due.same("kill(1)", x.kill(1), 1);
        Due.same("kill(1) again", x.kill(1), -3);
        counts("one dead", x, 3, 2, 4, 0, 9, 2, 14, 2);
        speeds("one dead", x, 9.5f, -8.5f, -8.5f, -8.5f);
        Due.same("kill(3)", x.kill(3), 2);
        counts("two dead", x, 3, 10, 4, 1, 9, 2);
        Due.sameFloat("the spin stays", x.momentum(6), 0f);
        Due.same("kill(0)", x.kill(0), 3);
        Due.same("kill(2)", x.kill(2), 4);
        counts("all dead", x, 3, 15, 4, 1, 14, 5);
        Due.same("tick(2) with all dead", x.tick(2), 1);
        speeds("all dead", x, 9.5f, -8.5f, -8.5f, -8.5f);
    }

    private static void mend() {
        SpinWheels x = new SpinWheels();
        Due.same("mend(-1)", x.mend(-1), -1);
        Due.same("mend(4)", x.mend(4), -1);
        Due.same("mend(0) alive", x.mend(0), -3);
        x.kill(0);
        x.kill(3);
        Due.same("mend(1) alive", x.mend(1), -3);
        Due.same("mend(3)", x.mend(3), 1);
        Due.same("mend(3) again", x.mend(3), -3);
        counts("the mode stays", x, 3, 1, 4, 1, 14, 3);
        Due.same("mend(0)", x.mend(0), 0);
        counts("the mode stays", x, 3, 0, 4, 1, 14, 4);
    }

    private static void free() {
        SpinWheels x = Due.craft(GROWING);
        Due.same("free() in mode 0", x.free(), -3);
        x.tick(4);
        x.kill(2);
        x.kill(0);
        x.tick(3);
        Due.same("free() with two dead", x.free(), -3);
        counts("two dead", x, 4, 1, 9, 2, 14, 4);
        x.mend(0);
        Due.same("free() with one dead", x.free(), 1);
        counts("freed", x, 3, 4, 4, 0, 6, 2, 8, 3, 9, 0, 14, 6);
        Due.sameFloat("freed: momentum(6)", x.momentum(6), 0f);
        Due.same("free() again", x.free(), -3);
        x = Due.craft(GROWING);
        x.tick(5);
        Due.same("free() with none dead", x.free(), 0);
        counts("freed", x, 4, 0, 6, 3);
    }

    private static void set() {
        SpinWheels x = new SpinWheels();
        int[] first = {50, 1, 1, 5};
        int[] least = {10, 0, 0, 1};
        int[] most = {99, 9, 9, 9};
        for (int i = 0; i < 4; i++) {
            Due.same("set(" + i + ", too small)", x.set(i, least[i] - 1), -2);
            Due.same("set(" + i + ", too great)", x.set(i, most[i] + 1), -2);
            Due.same("no act", x.count(14), 3 * i);
            Due.same("set(" + i + ", least)", x.set(i, least[i]), first[i]);
            Due.same("set(" + i + ", most)", x.set(i, most[i]), least[i]);
            Due.same("set(" + i + ", most) again", x.set(i, most[i]), most[i]);
            Due.same("count(" + (10 + i) + ")", x.count(10 + i), most[i]);
        }
        Due.same("set(-1, 5)", x.set(-1, 5), -2);
        Due.same("set(4, 5)", x.set(4, 5), -2);
        Due.same("set(MAX, 5)", x.set(Integer.MAX_VALUE, 5), -2);
        counts("acts", x, 14, 12);
    }

    private static void want() {
        SpinWheels x = Due.craft("K50005w-1+2+3w+4+5+6");
        Due.same("want(-1, 0, 0, 0)", x.want(-1, 0, 0, 0), -1);
        Due.same("want(2, 0, 0, 0)", x.want(2, 0, 0, 0), -1);
        Due.same("want(2, 99, 0, 0)", x.want(2, 99, 0, 0), -1);
        for (int bad = -10; bad <= 10; bad += 20) {
            Due.same("want, x outside", x.want(1, bad, 0, 0), -2);
            Due.same("want, y outside", x.want(1, 0, bad, 0), -2);
            Due.same("want, z outside", x.want(1, 0, 0, bad), -2);
        }
        counts("no act", x, 14, 0);
        // -1 is an answer here, and no error: it is an act
        Due.same("want(0, 9, -9, 0)", x.want(0, 9, -9, 0), -1);
        counts("an act", x, 14, 1);
        Due.same("want(1, -9, 9, 9)", x.want(1, -9, 9, 9), 4);
        int[][] due = {{9, -9, 0}, {-9, 9, 9}};
        for (int i = 0; i < 2; i++) {
            for (int k = 0; k < 3; k++) {
                Due.same("told(true, " + i + ", " + k + ")", x.told(true, i, k), due[i][k]);
            }
        }
        x.undo();
        Due.same("want undone", x.told(true, 1, 2), 6);
        x.undo();
        Due.same("want undone", x.told(true, 0, 1), 2);
        Due.same("no commands", new SpinWheels().want(0, 0, 0, 0), -1);
    }

    private static void undo() {
        SpinWheels x = new SpinWheels();
        Due.same("undo() of nothing", x.undo(), -3);
        for (int i = 1; i <= 20; i++) {
            x.tick(1);
            Due.same("count(14)", x.count(14), Math.min(i, 14));
        }
        for (int i = 13; i >= 0; i--) {
            Due.same("undo()", x.undo(), i);
            Due.same("the clock", x.count(5), 6 + i);
        }
        Due.same("undo() of the fifteenth", x.undo(), -3);
        Due.same("the clock stays", x.count(5), 6);
        x.tick(5);
        x.kill(4);
        x.mend(0);
        x.free();
        x.set(9, 9);
        x.want(0, 0, 0, 0);
        x.plan(0);
        x.drawn(3);
        x.keep(0);
        Due.same("only acts are undone", x.undo(), 0);
        Due.same("the clock", x.count(5), 6);
        for (int i = 0; i < 10; i++) {
            x.tick(2);
        }
        x.undo();
        x.undo();
        x.undo();
        x.set(2, 7);
        Due.same("an act after undo()", x.count(14), 8);
        Due.same("undo() of it", x.undo(), 7);
        counts("undone", x, 5, 20, 12, 1);
    }

    private static void undoGivesAllBack() {
        SpinWheels x = Due.worn();
        int[] before = Due.seen(x);
        Due.wearOut(x);
        Due.same("count(14)", x.count(14), 14);
        for (int i = 0; i < 9; i++) {
            x.undo();
        }
        int[] after = Due.seen(x);
        for (int i = 0; i < before.length; i++) {
            Due.same("undone, number " + i, after[i], before[i]);
        }
    }
}
