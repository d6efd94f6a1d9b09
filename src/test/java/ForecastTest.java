/** Promises 16 to 23: forecasts, none of which changes anything. */
public final class ForecastTest {
    private static final String GROWING = "K10005w+9+9+9";
    /** All four wheels lose nothing in 20 ticks; without wheel 0, 1, 2 or 3 it is 1, 5, 0 or 5 ticks. */
    private static final String UNEVEN = "K11004w+5+5+3w-3-5-4";

    public static void main(String[] args) {
        plan();
        planPrefers();
        next();
        ahead();
        later();
        spun();
        dumps();
        worst();
        judgeTicksAndTells();
        judgeKillsAndMends();
        judgeForms();
        judgeErrors();
        Due.end("ForecastTest");
    }

    private static void plans(String when, SpinWheels x, int step, int near, float height, int missed) {
        Due.same(when + ": plan(0)", x.plan(0), step);
        Due.same(when + ": plan(1)", x.plan(1), near);
        Due.sameFloat(when + ": plan(2)", x.plan(2), height);
        Due.same(when + ": plan(3)", x.plan(3), missed);
    }

    private static void plan() {
        plans("new", new SpinWheels(), -1, 0, 1f, 0);
        SpinWheels x = Due.craft("K50115w+5-3+2");
        plans("example", x, 1, 0, 2.5f, 0);
        x.kill(3);
        plans("three wheels", x, 0, 0, 2.5f, 0);
        x = Due.craft(GROWING);
        plans("first", x, -2, 0, 4.75f, 0);
        x.tick(2);
        plans("a miss", x, -3, 0, 13.75f, 1);
        Due.same("plan(4)", x.plan(4), -2);
        Due.same("plan(-1)", x.plan(-1), -2);
        Due.same("nothing changes", x.count(5) + x.count(6) + x.count(14), 3);
        x.tick(3);
        for (int i = 0; i < 4; i++) {
            Due.same("plan(" + i + ") in safe mode", x.plan(i), -3);
        }
        Due.same("plan(4) in safe mode", x.plan(4), -2);
        // band 0 leaves nothing near, not even 0
        plans("band 0", Due.craft("K50005"), 0, 0, 0f, 0);
        // a speed of just the band is not near
        plans("band 4", Due.craft("K50405"), -4, 0, 4f, 0);
        plans("band 5", Due.craft("K50505"), 0, 4, 0f, 0);
    }

    private static void planPrefers() {
        // (0, 2, -2, 0): steps -1, 1, -3, 3, -4 and 4 keep off zero, -1 and 1 with the smallest height
        plans("of several the first", Due.craft("K50115w+4-4+0"), -1, 0, 3f, 0);
        // (6.75, -2.25, -2.25, -2.25) is best balanced with -2
        plans("the smallest height", Due.craft("K50005w+9+9+9"), -2, 0, 4.75f, 0);
        plans("the other way", Due.craft("K50005w-9-9-9"), 2, 0, 4.75f, 0);
        // (2.75, -6.25, -6.25, -6.25) has fewer near 0 than the flatter (4.75, -4.25, -4.25, -4.25)
        plans("near before height", Due.craft("K50605w+9+9+9"), -4, 1, 6.25f, 0);
        // the top does not matter for the step
        plans("near before the top", Due.craft("K10905w+0+0+0"), 0, 4, 0f, 0);
    }

    private static void next() {
        SpinWheels x = Due.craft("K50115w+5-3+2");
        float[] due = {2f, 2.5f, -1.5f, 1f};
        for (int i = 0; i < 4; i++) {
            Due.sameFloat("next(" + i + ")", x.next(i), due[i]);
        }
        x.tick(1);
        x.kill(1);
        Due.sameFloat("next(1) of a dead wheel", x.next(1), 2.5f);
        x = Due.craft(GROWING);
        x.tick(2);
        Due.sameFloat("next(0) that is missed", x.next(0), 13.25f);
        Due.sameFloat("next(3) that is missed", x.next(3), -13.75f);
        Due.same("next(-1)", x.next(-1), -1);
        Due.same("next(4)", x.next(4), -1);
        x.tick(3);
        Due.same("next(0) in safe mode", x.next(0), -3);
        Due.same("next(4) in safe mode", x.next(4), -1);
        // what the coils do afterwards is not in it
        Due.sameFloat("next(0) without the coils", Due.craft("K50015w+4+0+0f+0+0+8").next(0), 1f);
    }

    private static void ahead() {
        SpinWheels x = Due.craft("K50015w+4+0+0f+0+0+8");
        Due.sameFloat("ahead(0, 0)", x.ahead(0, 0), 0f);
        Due.sameFloat("ahead(1, 0)", x.ahead(1, 0), 0.9375f);
        Due.sameFloat("ahead(1, 3)", x.ahead(1, 3), -0.9375f);
        int[] due = new int[4];
        for (int i = 0; i < 4; i++) {
            due[i] = x.ahead(99, i);
        }
        Due.same("nothing changes", x.count(5) + x.count(14) + x.wheel(0, 0), 0);
        x.tick(99);
        for (int i = 0; i < 4; i++) {
            Due.same("ahead(99, " + i + ")", due[i], x.wheel(i, 0));
        }
        Due.same("ahead(-1, 0)", x.ahead(-1, 0), -2);
        Due.same("ahead(100, 0)", x.ahead(100, 0), -2);
        Due.same("ahead(100, 4)", x.ahead(100, 4), -2);
        Due.same("ahead(99, 4)", x.ahead(99, 4), -1);
        Due.same("ahead(0, -1)", x.ahead(0, -1), -1);
    }

    private static void later() {
        SpinWheels x = Due.craft(GROWING);
        int[][] due = {{0, 0, 0, 0, 0, 0}, {2, 0, 0, 0, 0, 0}, {3, 0, 1, 0, 0, 1}, {4, 0, 2, 0, 0, 2},
            {5, 1, 3, 0, 0, 0}, {6, 1, 3, 0, 1, 0}, {99, 1, 3, 0, 94, 0}};
        for (int[] row : due) {
            for (int what = 0; what < 5; what++) {
                Due.same("later(" + row[0] + ", " + what + ")", x.later(row[0], what), row[1 + what]);
            }
        }
        Due.same("later(2, 2)", Due.craft("K50015w+4+0+0w-8+0+0").later(2, 2), 4);
        Due.same("later(-1, 0)", x.later(-1, 0), -2);
        Due.same("later(100, 0)", x.later(100, 0), -2);
        Due.same("later(5, -1)", x.later(5, -1), -2);
        Due.same("later(5, 5)", x.later(5, 5), -2);
        Due.same("nothing changes", x.count(5) + x.count(14), 0);
    }

    private static void spun() {
        SpinWheels x = Due.craft(GROWING);
        Due.same("spun()", x.spun(), 5);
        x.tick(4);
        Due.same("spun() after 4 ticks", x.spun(), 1);
        x.tick(1);
        Due.same("spun() in safe mode", x.spun(), 0);
        Due.same("spun() never", new SpinWheels().spun(), -9);
        // with wheel 3 dead wheel 0 gains 1 a tick, and after top ticks each tick is missed
        for (int top = 55; top <= 60; top++) {
            x = Due.craft("K" + top + "005w+2+0+0");
            x.kill(3);
            Due.same("spun() with the top " + top, x.spun(), top + 3 <= 60 ? top + 3 : -9);
        }
        Due.same("nothing changes", x.count(5), 0);
    }

    private static void dumps() {
        String[] texts = {"K13132w-0-2+4w+3-0-4f+9+4+9", "K16024w+2+3+1w+3-1+0f+2-9+6", "K15025w-1+0-5w-3+4+5f-1-2-7",
            "K16031w-0+1-2f-9+9-2", "K50015w+4+0+0f+0+0+8", "K20219w+9-8+1w-1-1-1w+0+4+2f+1+1+9f-5+5+5f+0+0+1"};
        int[] literal = {3, 7, 9, 1, -1, -1};
        for (int t = 0; t < texts.length; t++) {
            SpinWheels x = Due.craft(texts[t]);
            for (int round = 0; round < 3; round++) {
                int got = x.dumps();
                Due.same("dumps() of " + texts[t], got, bestGain(x));
                if (round == 0 && literal[t] >= 0) {
                    Due.same("dumps() of " + texts[t], got, literal[t]);
                }
                x.tick(7);
            }
        }
        Due.same("dumps() of several", new SpinWheels().dumps(), 0);
        SpinWheels x = Due.craft("K50095w+4+0+0");
        Due.same("dumps() without fields", x.dumps(), 0);
        Due.same("nothing changes", x.count(12) * 10 + x.count(14), 90);
    }

    private static int bestGain(SpinWheels x) {
        int best = -1;
        float least = 0f;
        for (int g = 0; g < 10; g++) {
            x.set(2, g);
            x.tick(12);
            float size = Math.abs(Float.intBitsToFloat(x.momentum(0))) + Math.abs(Float.intBitsToFloat(x.momentum(1)))
                + Math.abs(Float.intBitsToFloat(x.momentum(2)));
            x.undo();
            x.undo();
            if (best < 0 || size < least) {
                best = g;
                least = size;
            }
        }
        return best;
    }

    private static void worst() {
        SpinWheels x = Due.craft(UNEVEN);
        Due.same("worst()", x.worst(), 1);
        x.kill(1);
        Due.same("worst() of the others", x.worst(), 0);
        x.kill(0);
        Due.same("worst() of two", x.worst(), 2);
        x.kill(2);
        Due.same("worst() of one", x.worst(), 3);
        x.kill(3);
        Due.same("worst() of none", x.worst(), -9);
        Due.same("worst() of the last", Due.craft("K17115w-3-1-1w+3+4-2").worst(), 2);
        x = Due.craft("K16213w+0+0-2w-2+1-1");
        Due.same("worst() of two alike", x.worst(), 0);
        // a miss that has been counted already is not one of the next 20 ticks
        x = Due.craft(GROWING);
        x.tick(3);
        Due.same("worst() of all alike", x.worst(), 0);
        Due.same("nothing changes", x.count(3) + x.count(14), 1);
    }

    private static void judge(String when, SpinWheels x, int n, long row, int due) {
        Due.same(when + ": judge(" + n + ", " + row + ")", x.judge(n, row), due);
    }

    private static void judgeTicksAndTells() {
        SpinWheels x = Due.craft(GROWING);
        judge("five ticks", x, 3, 105040017030L, -9);
        judge("four ticks", x, 3, 104040017030L, 1);
        judge("four ticks", x, 3, 104040007030L, 2);
        judge("four ticks", x, 3, 104040007020L, -9);
        judge("ticks add up", x, 3, 102010307030L, -9);
        judge("98 ticks", x, 3, 198070304001L, -9);
        judge("no ticks", x, 1, 1000L, 0);
        judge("one tick", x, 1, 1010L, -9);
        judge("ten and more misses", manyMisses(), 3, 712071307120L, 1);
        judge("ten and more misses", manyMisses(), 2, 71207120L, -9);
        // with wheel 3 dead wheel 0 gains 1 a tick and comes to -1, 0 or 1 in the tick 19, 20 or 21
        judge("19 ticks", fromBelow(), 2, 11905000L, -9);
        judge("20 ticks", fromBelow(), 2, 12005001L, -9);
        judge("21 ticks", fromBelow(), 2, 12105002L, -9);
        // a statement that fails changes nothing that could be seen; the next one is not looked at
        judge("a last digit", fromBelow(), 2, 12015001L, 0);
        judge("99 ticks", x, 1, 1990L, -9);
        judge("a last digit", x, 1, 1011L, 0);
        judge("missed is 0", x, 1, 7000L, -9);
        judge("missed is 10", x, 1, 7100L, 0);
        judge("missed, a last digit", x, 1, 7001L, 0);
        judge("the speeds are 0", x, 3, 500150015001L, -9);
        judge("one speed", x, 2, 10105002L, -9);
        judge("another", x, 2, 10105100L, -9);
        judge("another", x, 2, 10105102L, 1);
        judge("0 no more", x, 2, 10105001L, 1);
        judge("the first fails", x, 3, 70107010L, 0);
        Due.same("nothing changes", x.count(5) + x.count(14), 0);
        // there and back, and to 0 if no coil takes anything on the way
        x = Due.craft("K50015w+4+0+0w-4+0+0f+0+0+8");
        judge("the gain", x, 3, 600010205001L, -9);
        judge("another gain", x, 3, 600910205000L, -9);
    }

    private static SpinWheels manyMisses() {
        SpinWheels x = Due.craft("K10005w+9+9+9");
        x.tick(5);
        for (int i = 0; i < 3; i++) {
            x.free();
            x.tick(3);
        }
        Due.same("missed", x.count(6), 12);
        return x;
    }

    private static SpinWheels fromBelow() {
        SpinWheels x = Due.craft("K50005w-2+0+0");
        x.kill(3);
        x.tick(20);
        x.want(0, 2, 0, 0);
        Due.same("wheel(0, 1)", x.wheel(0, 1), -20000);
        return x;
    }

    private static void judgeKillsAndMends() {
        SpinWheels x = Due.craft("K50005w+4+0+0");
        judge("kill two", x, 3, 200021004001L, -9);
        judge("kill one", x, 2, 20004001L, 1);
        judge("kill one twice", x, 2, 20002000L, 1);
        judge("kill and mend", x, 3, 230033003300L, 2);
        judge("kill and mend", x, 3, 230033002300L, -9);
        judge("no such wheel", x, 1, 2400L, 0);
        judge("no such wheel", x, 1, 3400L, 0);
        judge("no such wheel", x, 1, 5401L, 0);
        judge("alive", x, 1, 3000L, 0);
        x.tick(1);
        judge("a dead one's speed", x, 3, 200010105002L, -9);
        judge("a dead one's speed", x, 3, 220010105200L, -9);
        judge("one of the others'", x, 3, 220010105002L, -9);
        x.kill(1);
        x.kill(2);
        judge("dead now", x, 1, 2100L, 0);
        judge("the mode stays", x, 3, 310032004001L, -9);
        judge("safe ticks are not missed", x, 2, 19907000L, -9);
    }

    private static void judgeForms() {
        SpinWheels x = new SpinWheels();
        for (int statement = 0; statement < 10000; statement++) {
            // what an object answers after its 512th call is free
            if (statement % 200 == 0) {
                x = new SpinWheels();
            }
            int kind = statement / 1000;
            int a = statement / 100 % 10;
            int b = statement / 10 % 10;
            int c = statement % 10;
            boolean good = kind == 1 && c == 0 && a * 10 + b > 0
                || kind == 2 && a < 4 && b == 0 && c == 0
                || kind == 4 && a == 0 && b == 0 && c == 0
                || kind == 5 && a < 4 && b == 0 && c == 1
                || kind == 6 && a == 0 && b == 0
                || kind == 7 && a == 0 && b == 0 && c == 0;
            if ((x.judge(1, statement) == -9) != good) {
                Due.same("judge(1, " + statement + ")", x.judge(1, statement), good ? -9 : 0);
            }
        }
        x = new SpinWheels();
        x.kill(2);
        judge("dead", x, 1, 3200L, -9);
        judge("dead, a third digit", x, 1, 3210L, 0);
        judge("dead, a last digit", x, 1, 3201L, 0);
        judge("dead, another", x, 1, 3300L, 0);
    }

    private static void judgeErrors() {
        SpinWheels x = new SpinWheels();
        judge("n", x, 0, 0L, -2);
        judge("n", x, -1, 0L, -2);
        judge("n", x, 4, 0L, -2);
        judge("row", x, 1, -1L, -2);
        judge("row", x, 1, 10000L, -2);
        judge("row", x, 1, 9999L, 0);
        judge("row", x, 1, 0L, 0);
        judge("row", x, 2, 100000000L, -2);
        judge("row", x, 2, 99999999L, 0);
        judge("row", x, 3, 1000000000000L, -2);
        judge("row", x, 3, 999999999999L, 0);
        judge("row", x, 3, Long.MAX_VALUE, -2);
        judge("row", x, 3, Long.MIN_VALUE, -2);
        // an int would take this row for 4000
        judge("row", x, 1, 4000L + (1L << 32), -2);
        judge("short of digits", x, 3, 4000L, 0);
    }
}
