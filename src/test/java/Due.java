/** What the tests share: it counts wrong answers and makes crafts. */
final class Due {
    private static int wrong = 0;

    private Due() {
    }

    static void same(String call, long got, long due) {
        if (got != due) {
            wrong++;
            System.out.println(call + " answered " + got + ", due is " + due);
        }
    }

    static void sameFloat(String call, int gotBits, float due) {
        same(call, gotBits, Float.floatToIntBits(due));
    }

    static void isTrue(String what, boolean holds) {
        if (!holds) {
            wrong++;
            System.out.println(what);
        }
    }

    static void type(SpinWheels x, String text) {
        for (int i = 0; i < text.length(); i++) {
            x.write(text.charAt(i));
        }
    }

    /** A new object that has read the text. */
    static SpinWheels craft(String text) {
        SpinWheels x = new SpinWheels();
        type(x, text);
        isTrue("the craft " + text + " is not read", x.craft() >= 0);
        return x;
    }

    static void end(String name) {
        System.out.println(name + ": " + (wrong == 0 ? "all answers are as due" : wrong + " answers are not as due"));
        if (wrong != 0) {
            System.exit(1);
        }
    }
}
