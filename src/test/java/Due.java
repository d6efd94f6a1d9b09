/** What the tests share: it counts wrong answers and makes crafts. */
final class Due {
    private static int wrong = 0;
    private static String about = "";

    private Due() {
    }

    /** What the next answers are about; it stands before each one that is not due. */
    static void about(String what) {
        about = what.isEmpty() ? "" : what + ": ";
    }

    static void same(String call, long got, long due) {
        if (got != due) {
            wrong++;
            System.out.println(about + call + " answered " + got + ", due is " + due);
        }
    }

    static void sameFloat(String call, int gotBits, float due) {
        same(call, gotBits, Float.floatToIntBits(due));
    }

    static void isTrue(String what, boolean holds) {
        if (!holds) {
            wrong++;
            System.out.println(about + what);
        }
    }

    static void type(SpinWheels x, String text) {
        for (int i = 0; i < text.length(); i++) {
            x.write(text.charAt(i));
        }
    }

    /** A new object that has read the text. */
    static SpinWheels craft(String text) {
        SpinWheels x = new SpinWheels();
        type(x, text);
        isTrue("the craft " + text + " is not read", x.craft() >= 0);
        return x;
    }

    /** All that shows of the state that acts change. */
    static int[] seen(SpinWheels x) {
        int[] all = new int[35];
        int n = 0;
        for (int i = 0; i < 14; i++) {
            all[n++] = x.count(i);
        }
        for (int i = 0; i < 4; i++) {
            all[n++] = x.wheel(i, 0);
            all[n++] = x.wheel(i, 2);
        }
        for (int i = 0; i < 7; i++) {
            all[n++] = x.momentum(i);
        }
        for (int i = 0; i < 6; i++) {
            all[n++] = x.told(true, i / 3, i % 3);
        }
        return all;
    }

    /** A craft of which much has happened in five acts: two wheels are dead, and no counter is 0. */
    static SpinWheels worn() {
        SpinWheels x = craft("K12222w-3-0-3w+4+4-0f-0-9+3");
        x.tick(9);
        x.kill(1);
        x.tick(9);
        x.kill(0);
        x.tick(2);
        int[] due = {3, 1, 20, 4, 7, 2, 2};
        for (int i = 0; i < due.length; i++) {
            same("worn: count(" + (3 + i) + ")", x.count(3 + i), due[i]);
        }
        return x;
    }

    /** Nine acts that change all that acts change. */
    static void wearOut(SpinWheels x) {
        int[] before = seen(x);
        x.mend(0);
        x.mend(1);
        x.free();
        x.set(0, 11);
        x.set(1, 9);
        x.set(2, 9);
        x.set(3, 9);
        x.want(1, -8, -8, -8);
        x.tick(30);
        int[] after = seen(x);
        // the mode is 1 again, two wheels were alive before, and the first command stays
        for (int i = 3; i < before.length; i++) {
            boolean mayStay = i == 4 || i > 13 && i < 22 && i % 2 == 1 || i > 28 && i < 32;
            isTrue("worn out: number " + i + " stays", mayStay || before[i] != after[i]);
        }
    }

    static void end(String name) {
        System.out.println(name + ": " + (wrong == 0 ? "all answers are as due" : wrong + " answers are not as due"));
        if (wrong != 0) {
            System.exit(1);
        }
    }
}
