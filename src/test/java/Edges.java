import java.lang.reflect.InvocationTargetException;
import java.lang.reflect.Method;
import java.util.Map;
import java.util.TreeMap;

/**
 * Runs the cases of an edge test, and makes what they share. A case is a method that is named after its promise and
 * the boundary that it looks at, as p02_write_letter256IsOutside. No object is asked more than 512 times.
 */
final class Edges {
    /** A call, with its answer. */
    interface Call {
        long on(SpinWheels x);
    }

    /** A call with one number. */
    interface NumberCall {
        long on(SpinWheels x, int number);
    }

    /** Makes objects that are alike. */
    interface Maker {
        SpinWheels make();
    }

    private static final int[] SHOWN = {3, 5, 6, 7, 8, 9, 10, 11, 12, 13};

    private Edges() {
    }

    /** Runs all cases of a class, which has some for each of the promises first to last. */
    static void run(Class<?> cases, int first, int last) {
        Map<String, Method> named = new TreeMap<>();
        for (Method m : cases.getDeclaredMethods()) {
            if (m.getName().matches("p\\d\\d_\\w+")) {
                named.put(m.getName(), m);
            }
        }
        for (int promise = first; promise <= last; promise++) {
            String head = String.format("p%02d_", promise);
            Due.isTrue("no case of promise " + promise, named.keySet().stream().anyMatch(n -> n.startsWith(head)));
        }
        for (Map.Entry<String, Method> e : named.entrySet()) {
            Due.about(e.getKey());
            runOne(e.getValue());
        }
        Due.about("");
        System.out.println(cases.getSimpleName() + ": " + named.size() + " cases");
    }

    private static void runOne(Method m) {
        try {
            m.invoke(null);
        } catch (InvocationTargetException e) {
            Due.isTrue("threw " + e.getCause(), false);
        } catch (IllegalAccessException e) {
            Due.isTrue("cannot be run: " + e, false);
        }
    }

    /** The call answers what is due, and afterwards all is as if it had not been made. */
    static void changesNothing(String call, long due, Maker maker, Call made) {
        SpinWheels touched = maker.make();
        Due.same(call, made.on(touched), due);
        sameInAll("after " + call, touched, maker.make());
    }

    /** Each of these numbers is refused with the code, and nothing changes. */
    static void refuses(String call, long code, Maker maker, NumberCall made, int... numbers) {
        for (int number : numbers) {
            changesNothing(call + " with " + number, code, maker, x -> made.on(x, number));
        }
    }

    /** All that can be learnt of two objects is the same; both are used up by this. */
    static void sameInAll(String when, SpinWheels got, SpinWheels due) {
        sameCraft(when, got, due);
        same(when + ": fault()", got, due, x -> x.fault());
        same(when + ": which()", got, due, x -> x.which());
        same(when + ": seed(0)", got, due, x -> x.seed(0L));
        long left = 1;
        for (int i = 1; i <= 15 && left >= 0; i++) {
            left = same(when + ": undo() no. " + i, got, due, x -> x.undo());
            sameInShort(when + ": undone " + i, got, due);
        }
        for (int slot = 0; slot < 2; slot++) {
            int s = slot;
            same(when + ": again(" + s + ")", got, due, x -> x.again(s));
            sameInShort(when + ": again(" + s + ")", got, due);
        }
        same(when + ": craft()", got, due, x -> x.craft());
        sameCraft(when + ": craft()", got, due);
    }

    private static long same(String call, SpinWheels got, SpinWheels due, Call made) {
        long answer = made.on(due);
        Due.same(call, made.on(got), answer);
        return answer;
    }

    /** Numbers, speeds, the spin, commands and fields are the same. */
    static void sameCraft(String when, SpinWheels got, SpinWheels due) {
        for (int i = 0; i < 16; i++) {
            Due.same(when + ": count(" + i + ")", got.count(i), due.count(i));
        }
        sameSpeeds(when, got, due);
        Due.same(when + ": momentum(6)", got.momentum(6), due.momentum(6));
        for (int i = 0; i < 18; i++) {
            String place = i / 3 + ", " + i % 3 + ")";
            Due.same(when + ": told(true, " + place, got.told(true, i / 3, i % 3), due.told(true, i / 3, i % 3));
            Due.same(when + ": told(false, " + place, got.told(false, i / 3, i % 3), due.told(false, i / 3, i % 3));
        }
    }

    private static void sameInShort(String when, SpinWheels got, SpinWheels due) {
        for (int i : SHOWN) {
            Due.same(when + ": count(" + i + ")", got.count(i), due.count(i));
        }
        sameSpeeds(when, got, due);
        Due.same(when + ": told(true, 1, 1)", got.told(true, 1, 1), due.told(true, 1, 1));
    }

    private static void sameSpeeds(String when, SpinWheels got, SpinWheels due) {
        for (int i = 0; i < 4; i++) {
            Due.same(when + ": wheel(" + i + ", 0)", got.wheel(i, 0), due.wheel(i, 0));
        }
    }

    // ---- objects

    static SpinWheels fresh() {
        return new SpinWheels();
    }

    /** Mode 0, wheel 2 dead, two commands, two fields, six acts, both slots, two observations, a seed. */
    static SpinWheels busy() {
        SpinWheels x = Due.craft("K20113w+4-2+1w-3+5+0f+1-9+2f-4+0+7");
        x.seed(99L);
        x.see(1, 0, 0, 1);
        x.see(2, 2, 2, 0);
        x.tick(3);
        x.keep(0);
        x.kill(2);
        x.tick(2);
        x.set(2, 4);
        x.want(1, 7, -7, 2);
        x.keep(1);
        x.tick(1);
        return x;
    }

    /** As busy(), but in mode 1 with the wheels 0 and 2 dead, and a spin. */
    static SpinWheels safe() {
        SpinWheels x = busy();
        x.kill(0);
        x.tick(2);
        return x;
    }

    /** As safe(), but all wheels are dead. */
    static SpinWheels lifeless() {
        SpinWheels x = safe();
        x.kill(1);
        x.kill(3);
        return x;
    }

    /** As busy(), but the text is full. */
    static SpinWheels wordy() {
        SpinWheels x = busy();
        while (x.count(0) < 120) {
            x.write('w');
        }
        return x;
    }

    /** As busy(), but there are six observations. */
    static SpinWheels watched() {
        SpinWheels x = busy();
        while (x.count(15) < 6) {
            x.see(3, 1, 50, 0);
        }
        return x;
    }

    /** A new craft without gain and with n acts, ticks all; its speeds stay 0. */
    static SpinWheels ticked(int n) {
        SpinWheels x = Due.craft("K50005");
        for (int i = 0; i < n; i++) {
            x.tick(1);
        }
        return x;
    }

    /** A craft that has lost wheel 3: without coils the wheels 0 and 1 gain 1 in each tick, and wheel 2 stays at 0. */
    static SpinWheels growing(int top) {
        SpinWheels x = Due.craft("K" + top + "005w+2+0+0");
        x.kill(3);
        return x;
    }

    static void speeds(SpinWheels x, float... due) {
        for (int i = 0; i < due.length; i++) {
            Due.sameFloat("wheel(" + i + ", 0)", x.wheel(i, 0), due[i]);
        }
    }

    /** Pairs of a what of count() and what is due there. */
    static void counts(SpinWheels x, int... pairs) {
        for (int i = 0; i < pairs.length; i += 2) {
            Due.same("count(" + pairs[i] + ")", x.count(pairs[i]), pairs[i + 1]);
        }
    }
}
