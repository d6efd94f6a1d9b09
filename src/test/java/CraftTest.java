/** Promises 1 to 8: the craft and how it is read. */
public final class CraftTest {
    private static final String WHOLE = "K93604w+1-2+3f-4+5-6w+0-0+9";

    public static void main(String[] args) {
        constants();
        newObject();
        write();
        wipe();
        fault();
        faultOfTooManyParts();
        craft();
        craftForgetsCounters();
        craftKeepsAndForgets();
        wheel();
        told();
        momentum();
        Due.end("CraftTest");
    }

    private static void constants() {
        Due.same("UNKNOWN", SpinWheels.UNKNOWN, -1);
        Due.same("OUTSIDE", SpinWheels.OUTSIDE, -2);
        Due.same("STATE", SpinWheels.STATE, -3);
        Due.same("FULL", SpinWheels.FULL, -4);
        Due.same("NONE", SpinWheels.NONE, -9);
    }

    private static void counts(String when, SpinWheels x, int... due) {
        for (int i = 0; i < due.length; i++) {
            Due.same(when + ": count(" + i + ")", x.count(i), due[i]);
        }
    }

    private static void newObject() {
        SpinWheels x = new SpinWheels();
        counts("new", x, 0, 0, 0, 0, 0, 0, 0, 0, 0, 0, 50, 1, 1, 5, 0, 0);
        for (int i = 0; i < 4; i++) {
            Due.same("new: wheel(" + i + ", 0)", x.wheel(i, 0), 0);
            Due.same("new: wheel(" + i + ", 2)", x.wheel(i, 2), 0);
        }
        Due.same("new: momentum(6)", x.momentum(6), 0);
        Due.same("new: fault()", x.fault(), 0);
        Due.same("new: undo()", x.undo(), -3);
        Due.same("new: again(0)", x.again(0), -3);
        Due.same("new: again(1)", x.again(1), -3);
        Due.same("new: told(true, 0, 0)", x.told(true, 0, 0), -1);
        Due.same("new: told(false, 0, 0)", x.told(false, 0, 0), -1);
        Due.same("new: unsee()", x.unsee(), 0);
        Due.same("new: seed(9)", x.seed(9L), 0);
        SpinWheels other = new SpinWheels();
        x.write('K');
        x.tick(3);
        counts("another", other, 0, 0, 0, 0, 0, 0, 0, 0, 0, 0, 50, 1, 1, 5, 0, 0);
        Due.same("another: seed(1)", other.seed(1L), 0);
    }

    private static void write() {
        SpinWheels x = new SpinWheels();
        Due.same("write(-1)", x.write(-1), -2);
        Due.same("write(256)", x.write(256), -2);
        Due.same("write(MIN)", x.write(Integer.MIN_VALUE), -2);
        Due.same("count(0) after errors", x.count(0), 0);
        for (int i = 1; i <= 120; i++) {
            Due.same("write, letter " + i, x.write(i % 2 == 0 ? 0 : 255), i);
        }
        Due.same("write(75), the 121st", x.write(75), -4);
        Due.same("write(256), the 121st", x.write(256), -2);
        Due.same("count(0) when full", x.count(0), 120);
        // a code above 255 must not be folded into a letter
        x.wipe();
        Due.same("write(256 + 75)", x.write(256 + 75), -2);
        Due.same("write(75)", x.write(75), 1);
        Due.same("fault() of K", x.fault(), 1);
    }

    private static void wipe() {
        SpinWheels x = new SpinWheels();
        Due.same("wipe() of nothing", x.wipe(), 0);
        Due.type(x, "K50");
        Due.same("wipe()", x.wipe(), 3);
        Due.same("count(0) after wipe()", x.count(0), 0);
        Due.type(x, "K10001");
        Due.same("fault() of what was written after wipe()", x.fault(), -9);
        Due.same("wipe() again", x.wipe(), 6);
    }

    private static void faultOf(String text, int due) {
        SpinWheels x = new SpinWheels();
        Due.type(x, text);
        Due.same("fault() of " + text, x.fault(), due);
        Due.same("craft() of " + text, x.craft() == -3 ? 1 : 0, due == -9 ? 0 : 1);
    }

    private static void fault() {
        for (int n = 0; n <= WHOLE.length(); n++) {
            boolean complete = n >= 6 && (n - 6) % 7 == 0;
            faultOf(WHOLE.substring(0, n), complete ? -9 : n);
        }
        for (int n = 0; n < WHOLE.length(); n++) {
            faultOf(WHOLE.substring(0, n) + ' ' + WHOLE.substring(n + 1), n);
            faultOf(WHOLE.substring(0, n) + (char) 255, n);
        }
        faultOf("k50115", 0);
        faultOf("K05115", 1);
        faultOf("K10005", -9);
        faultOf("K99999", -9);
        faultOf("K99990", 5);
        faultOf("K9999:", 5);
        faultOf("K9999/", 5);
        faultOf("K1/005", 2);
        faultOf("K1:005", 2);
        faultOf("K50115W+1+1+1", 6);
        faultOf("K50115w1+1+1", 7);
        faultOf("K50115w++1+1", 8);
        faultOf("K50115w+1+1+1+1", 13);
        faultOf("K501155", 6);
        faultOf("K50115f-9-9-9x", 13);
    }

    private static void faultOfTooManyParts() {
        String six = "w+1+1+1".repeat(6);
        String others = six.replace('w', 'f');
        faultOf("K50115" + six, -9);
        faultOf("K50115" + six + "w", 48);
        faultOf("K50115" + six + "w+1+1+1", 48);
        faultOf("K50115" + six + "f", 49);
        faultOf("K50115" + others + "f", 48);
        faultOf("K50115" + others + "w+0+0+0", -9);
        faultOf("K50115" + six + others, -9);
        faultOf("K50115" + others + six + "f+1+1+1", 90);
        faultOf("K50115" + others + six + "w", 90);
        SpinWheels x = Due.craft("K50115" + others + six);
        counts("six of each", x, 90, 6, 6);
    }

    private static void craft() {
        SpinWheels x = new SpinWheels();
        Due.type(x, WHOLE);
        Due.same("craft()", x.craft(), 2);
        counts("read", x, 27, 2, 1, 0, 0, 0, 0, 0, 0, 0, 93, 6, 0, 4, 0, 0);
        x.write('w');
        Due.same("craft() with a fault", x.craft(), -3);
        counts("not read", x, 28, 2, 1, 0, 0, 0, 0, 0, 0, 0, 93, 6, 0, 4, 0, 0);
        x.wipe();
        Due.same("craft() of nothing", x.craft(), -3);
        Due.type(x, "K10009");
        Due.same("craft() without commands", x.craft(), 0);
        counts("read again", x, 6, 0, 0, 0, 0, 0, 0, 0, 0, 0, 10, 0, 0, 9, 0, 0);
        Due.same("told of the craft before", x.told(true, 0, 0), -1);
    }

    private static void craftForgetsCounters() {
        SpinWheels x = Due.craft("K10005w+4+0+0w-8+0+0w+9+9+9w+9+9+9w+9+9+9");
        x.tick(5);
        Due.same("crossings before", x.count(7), 7);
        Due.same("missed and the run before", 10 * x.count(6) + x.count(9), 11);
        x.craft();
        counts("as at first", x, 41, 5, 0, 0, 0, 0, 0, 0, 0, 0, 10);
    }

    private static void craftKeepsAndForgets() {
        SpinWheels x = Due.craft("K10005w+9+9+9");
        x.tick(7);
        x.kill(1);
        x.kill(2);
        x.tick(1);
        x.keep(0);
        x.keep(1);
        x.seed(77L);
        x.see(1, 0, 1, 1);
        x.see(2, 0, 1, 1);
        Due.same("craft() in the middle", x.craft(), 1);
        counts("as at first", x, 13, 1, 0, 0, 0, 0, 0, 0, 0, 0, 10, 0, 0, 5, 0, 2);
        for (int i = 0; i < 4; i++) {
            Due.same("as at first: wheel(" + i + ", 0)", x.wheel(i, 0), 0);
        }
        Due.same("as at first: momentum(6)", x.momentum(6), 0);
        Due.same("as at first: undo()", x.undo(), -3);
        Due.same("as at first: again(0)", x.again(0), -3);
        Due.same("as at first: again(1)", x.again(1), -3);
        Due.same("the seed stays", x.seed(0L), 77);
        x.keep(1);
        x.write('?');
        Due.same("craft() that fails", x.craft(), -3);
        Due.same("the slots stay after a craft() that fails", x.again(1), 0);
    }

    private static void wheel() {
        SpinWheels x = Due.craft("K50015w+4+0+0f+0+0+8");
        int[][] axes = {{1, 1, 1}, {1, -1, -1}, {-1, 1, -1}, {-1, -1, 1}};
        x.tick(1);
        x.kill(2);
        float[] speeds = {0.9375f, 0.9375f, -0.9375f, -0.9375f};
        int[] thousandths = {937, 937, -937, -937};
        for (int i = 0; i < 4; i++) {
            Due.sameFloat("wheel(" + i + ", 0)", x.wheel(i, 0), speeds[i]);
            Due.same("wheel(" + i + ", 1)", x.wheel(i, 1), thousandths[i]);
            Due.same("wheel(" + i + ", 2)", x.wheel(i, 2), i == 2 ? 1 : 0);
            for (int k = 0; k < 3; k++) {
                Due.same("wheel(" + i + ", " + (3 + k) + ")", x.wheel(i, 3 + k), axes[i][k]);
            }
        }
        Due.same("wheel(-1, 0)", x.wheel(-1, 0), -1);
        Due.same("wheel(4, 0)", x.wheel(4, 0), -1);
        Due.same("wheel(4, 6)", x.wheel(4, 6), -1);
        Due.same("wheel(3, 6)", x.wheel(3, 6), -2);
        Due.same("wheel(0, -1)", x.wheel(0, -1), -2);
    }

    private static void told() {
        SpinWheels x = Due.craft(WHOLE);
        int[][] wants = {{1, -2, 3}, {0, 0, 9}};
        int[] field = {-4, 5, -6};
        for (int k = 0; k < 3; k++) {
            Due.same("told(true, 0, " + k + ")", x.told(true, 0, k), wants[0][k]);
            Due.same("told(true, 1, " + k + ")", x.told(true, 1, k), wants[1][k]);
            Due.same("told(false, 0, " + k + ")", x.told(false, 0, k), field[k]);
        }
        SpinWheels y = Due.craft("K10001f+1+2+3f+4+5+6f+7+8+9f-1-2-3f-4-5-6f-7-8-9");
        for (int i = 0; i < 18; i++) {
            Due.same("told(false, " + i / 3 + ", " + i % 3 + ")", y.told(false, i / 3, i % 3), i < 9 ? i + 1 : 8 - i);
        }
        Due.same("told(true, 2, 0)", x.told(true, 2, 0), -1);
        Due.same("told(false, 1, 0)", x.told(false, 1, 0), -1);
        Due.same("told(true, -1, 0)", x.told(true, -1, 0), -1);
        Due.same("told(true, 2, 3)", x.told(true, 2, 3), -1);
        Due.same("told(true, 1, 3)", x.told(true, 1, 3), -2);
        Due.same("told(false, 0, -1)", x.told(false, 0, -1), -2);
        Due.same("told(false, MAX, MAX)", x.told(false, Integer.MAX_VALUE, Integer.MAX_VALUE), -1);
    }

    private static void momentum() {
        SpinWheels x = Due.craft("K50015w+4+0+0f+0+0+8");
        x.tick(1);
        Due.sameFloat("momentum(0)", x.momentum(0), 3.75f);
        Due.same("momentum(1)", x.momentum(1), 0);
        Due.same("momentum(2)", x.momentum(2), 0);
        Due.same("momentum(3)", x.momentum(3), 3750);
        x.kill(0);
        Due.sameFloat("momentum(0) with a dead wheel", x.momentum(0), 3.75f);
        x = Due.craft("K50005w+1-2+3");
        x.tick(1);
        Due.sameFloat("p", x.momentum(0), 1f);
        Due.sameFloat("q", x.momentum(1), -2f);
        Due.sameFloat("r", x.momentum(2), 3f);
        Due.same("momentum(3)", x.momentum(3), 1000);
        Due.same("momentum(4)", x.momentum(4), -2000);
        Due.same("momentum(5)", x.momentum(5), 3000);
        Due.same("momentum(7)", x.momentum(7), -2);
        Due.same("momentum(-1)", x.momentum(-1), -2);
        x.kill(0);
        x.kill(1);
        x.tick(2);
        Due.sameFloat("momentum(6)", x.momentum(6), 0.875f);
    }
}
