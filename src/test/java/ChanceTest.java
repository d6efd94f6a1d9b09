/** Promises 24 to 33: observations, shares, probabilities, slots and numbers. */
public final class ChanceTest {
    private static final String GROWING = "K10005w+9+9+9";
    /** All four wheels lose nothing in 20 ticks; without wheel 0, 1, 2 or 3 it is 1, 5, 0 or 5 ticks. */
    private static final String UNEVEN = "K11004w+5+5+3w-3-5-4";

    public static void main(String[] args) {
        see();
        unsee();
        whichMode();
        whichSpeed();
        whichMissed();
        whichAlive();
        share();
        shareFollowsItsWords();
        lost();
        lostFollowsItsWords();
        seed();
        drawn();
        drawnLoses();
        keep();
        again();
        count();
        Due.end("ChanceTest");
    }

    private static void see() {
        SpinWheels x = new SpinWheels();
        int[][] bad = {{-1, 0, 0, 0}, {10, 0, 0, 0}, {0, -1, 0, 0}, {0, 3, 0, 0}, {0, 0, 2, 0}, {0, 0, -1, 0},
            {0, 1, 100, 0}, {0, 1, -1, 0}, {0, 2, 4, 0}, {0, 2, -1, 0}, {0, 0, 0, 2}, {0, 0, 0, -1}};
        for (int[] b : bad) {
            Due.same("see outside", x.see(b[0], b[1], b[2], b[3]), -2);
        }
        Due.same("count(15)", x.count(15), 0);
        Due.same("see(9, 0, 1, 0)", x.see(9, 0, 1, 0), 1);
        Due.same("see(0, 1, 99, 0)", x.see(0, 1, 99, 0), 2);
        Due.same("see(0, 2, 3, 0)", x.see(0, 2, 3, 0), 3);
        Due.same("see(0, 0, 0, 1)", x.see(0, 0, 0, 1), 4);
        Due.same("see(0, 1, 0, 1)", x.see(0, 1, 0, 1), 5);
        Due.same("see(0, 2, 0, 0)", x.see(0, 2, 0, 0), 6);
        Due.same("which()", x.which(), 15);
        Due.same("see, the seventh", x.see(0, 0, 1, 1), -4);
        for (int[] b : bad) {
            Due.same("see outside, when full", x.see(b[0], b[1], b[2], b[3]), -2);
        }
        Due.same("count(15)", x.count(15), 6);
        Due.same("which() is as before", x.which(), 15);
        Due.same("see is no act", x.count(14), 0);
    }

    private static void unsee() {
        SpinWheels x = new SpinWheels();
        Due.same("unsee() of none", x.unsee(), 0);
        x.see(0, 0, 1, 1);
        x.see(0, 0, 1, 1);
        Due.same("which() in vain", x.which(), 0);
        Due.same("unsee()", x.unsee(), 2);
        Due.same("count(15)", x.count(15), 0);
        Due.same("which()", x.which(), 15);
        for (int i = 1; i <= 6; i++) {
            Due.same("see", x.see(1, 0, 0, 1), i);
        }
        Due.same("unsee() again", x.unsee(), 6);
    }

    private static void which(String when, SpinWheels x, int due) {
        Due.same(when + ": which()", x.which(), due);
    }

    private static void whichMode() {
        SpinWheels x = new SpinWheels();
        x.see(0, 0, 0, 1);
        which("mode 0", x, 15);
        x.see(9, 0, 1, 1);
        which("both", x, 0);
        x.unsee();
        x.see(9, 0, 1, 1);
        x.kill(2);
        // now means the time of which(): one more dead wheel is the second
        which("mode 1", x, 11);
        x.undo();
        which("undone", x, 0);
    }

    private static void whichSpeed() {
        // (1, 1, -1, -1) after a tick with all wheels; killed, a wheel keeps its 0
        SpinWheels x = Due.craft("K50005w+4+0+0");
        x.see(1, 2, 2, 1);
        // b for wheel 2: without 0 (-2, 0, -2), without 1 (-2, 2, 0), without 3 (0, 2, -2)
        which("wheel 2 below 0", x, 3);
        x.see(1, 2, 3, 0);
        which("wheel 3 not", x, 0);
        x.unsee();
        x.see(1, 2, 2, 0);
        which("wheel 2 not below 0", x, 12);
        x.tick(1);
        x.unsee();
        x.see(0, 2, 2, 1);
        x.see(9, 2, 2, 1);
        // the speed of the killed wheel counts too
        which("below 0 all the time", x, 15);
        x.unsee();
        x.see(0, 2, 0, 1);
        which("above 0", x, 0);
    }

    private static void whichMissed() {
        // a wheel gains 9 a tick without wheel 0 or 3, and 4.5 without 1 or 2
        SpinWheels x = Due.craft("K10005w+9+9+0");
        x.see(2, 1, 1, 1);
        which("missed 1", x, 9);
        x.unsee();
        x.see(2, 1, 0, 1);
        which("missed 0", x, 6);
        x.see(1, 1, 1, 0);
        which("both", x, 6);
        x.see(3, 1, 1, 0);
        which("a contradiction", x, 0);
        x.unsee();
        // the third tick with all wheels is missed, and counts too
        x.tick(3);
        x.see(0, 1, 1, 1);
        which("missed before", x, 15);
        x.see(1, 1, 1, 1);
        which("one more is missed", x, 0);
    }

    private static void whichAlive() {
        SpinWheels x = new SpinWheels();
        which("without observations", x, 15);
        for (int i = 3; i >= 0; i--) {
            x.kill(i);
            which("alive ones", x, (1 << i) - 1);
        }
        Due.same("nothing changes", x.count(14), 4);
    }

    private static void share(SpinWheels x, int wheel, int over, int under) {
        Due.same("share(" + wheel + ", true)", x.share(wheel, true), over);
        Due.same("share(" + wheel + ", false)", x.share(wheel, false), under);
    }

    private static void share() {
        SpinWheels x = Due.craft(UNEVEN);
        share(x, 0, 53, 12);
        share(x, 1, 23, 4);
        share(x, 2, 49, 12);
        share(x, 3, 23, 4);
        Due.same("nothing changes", x.count(14) + x.count(5), 0);
        Due.same("share(-1, true)", x.share(-1, true), -1);
        Due.same("share(4, false)", x.share(4, false), -1);
        x.kill(1);
        Due.same("share(1, true) dead", x.share(1, true), -3);
        Due.same("share(1, false) dead", x.share(1, false), -3);
        Due.same("share(4, true)", x.share(4, true), -1);
        // only all three do anything: 15 ticks
        share(x, 0, 5, 1);
        share(x, 2, 5, 1);
        x.mend(1);
        x.kill(3);
        share(x, 0, 5, 1);
        x.kill(1);
        share(x, 0, 0, 1);
        x.kill(0);
        share(x, 2, 0, 1);
        x.mend(0);
        x.mend(1);
        x.mend(3);
        // safe mode: nothing is done
        share(x, 3, 0, 1);
        x = Due.craft("K12721w+2-5+2w+5+1-4f+5-2+6");
        share(x, 0, -1, 12);
        x = Due.craft("K12434w+2-3-0w+0-4-4f-6+3-0");
        share(x, 3, -1, 6);
    }

    /** The ticks of the next 20 that are not lost if the wheel is killed now, or with all if it is -1. */
    private static int kept(SpinWheels x, int wheel) {
        if (wheel >= 0) {
            x.kill(wheel);
        }
        int lost = x.later(20, 1) - x.count(6) + x.later(20, 3) - x.count(8);
        if (wheel >= 0) {
            x.undo();
        }
        return 20 - lost;
    }

    private static SpinWheels after(String text, int ticks) {
        SpinWheels x = Due.craft(text);
        if (ticks > 0) {
            x.tick(ticks);
        }
        return x;
    }

    private static int gcd(int a, int b) {
        return b == 0 ? a : gcd(b, a % b);
    }

    private static void shareFollowsItsWords() {
        for (int round = 0; round < 12; round++) {
            SpinWheels x = after("K13132w-0-2+4w+3-0-4f+9+4+9", 3 * round);
            int all = kept(x, -1);
            int sum = 0;
            for (int i = 0; i < 4; i++) {
                // of 24 orders, wheel i is the last one in 6, and the third one with wheel j to come in 2
                int over = 6 * (all - kept(x, i));
                for (int j = 0; j < 4; j++) {
                    over += j == i ? 0 : 2 * kept(x, j);
                }
                int divisor = gcd(Math.max(over, -over), 24);
                share(x, i, over / divisor, 24 / divisor);
                sum += 24 / x.share(i, false) * x.share(i, true);
            }
            Due.same("the sum of the shares", sum, 24 * all);
        }
    }

    private static void lost(SpinWheels x, int tenths, int over, int under) {
        Due.same("lost(" + tenths + ", true)", x.lost(tenths, true), over);
        Due.same("lost(" + tenths + ", false)", x.lost(tenths, false), under);
    }

    private static void lost() {
        SpinWheels x = Due.craft(UNEVEN);
        lost(x, 0, 1, 1);
        lost(x, 10, 0, 1);
        lost(x, 3, 343, 1000);
        lost(x, 5, 1, 8);
        x.kill(1);
        lost(x, 0, 0, 1);
        x.undo();
        x.kill(2);
        // any second dead wheel ends it
        lost(x, 0, 1, 1);
        lost(x, 2, 64, 125);
        lost(x, 5, 1, 8);
        lost(x, 10, 0, 1);
        x.kill(0);
        lost(x, 0, 0, 1);
        Due.same("lost(-1, true)", x.lost(-1, true), -2);
        Due.same("lost(11, true)", x.lost(11, true), -2);
        x.kill(1);
        x.kill(3);
        lost(x, 5, 0, 1);
        lost(new SpinWheels(), 2, 512, 625);
        lost(new SpinWheels(), 10, 0, 1);
        // misses before now are no lost ticks of the next 20
        x = Due.craft(GROWING);
        x.tick(3);
        x.want(0, 0, 0, 0);
        Due.same("missed", x.count(6), 1);
        lost(x, 2, 512, 625);
    }

    private static void lostFollowsItsWords() {
        for (int round = 0; round < 10; round++) {
            SpinWheels x = after("K17115w-3-1-1w+3+4-2", round);
            for (int t = 0; t <= 10; t++) {
                int y = 10 - t;
                int over = kept(x, -1) == 20 ? y * y * y * y : 0;
                for (int i = 0; i < 4; i++) {
                    over += kept(x, i) == 20 ? t * y * y * y : 0;
                }
                int divisor = gcd(10000, over);
                lost(x, t, over / divisor, 10000 / divisor);
            }
        }
    }

    private static void seed() {
        SpinWheels x = new SpinWheels();
        Due.same("seed(MIN)", x.seed(Long.MIN_VALUE), 0);
        Due.same("seed(MAX)", x.seed(Long.MAX_VALUE), Long.MIN_VALUE);
        Due.same("seed(5)", x.seed(5L), Long.MAX_VALUE);
        x.tick(1);
        x.undo();
        Due.same("seed(0), acts do nothing to it", x.seed(0L), 5);
        Due.same("no act", x.count(14), 0);
    }

    private static void drawn() {
        SpinWheels x = new SpinWheels();
        Due.same("drawn(0)", x.drawn(0), -2);
        Due.same("drawn(21)", x.drawn(21), -2);
        Due.same("errors leave the seed", x.seed(0L), 0);
        x.drawn(1);
        Due.same("one draw from 0", x.seed(2L), 1442695040888963407L);
        x.drawn(1);
        Due.same("one draw from 2", x.seed(5L), -4275776585127002199L);
        x.drawn(20);
        Due.same("twenty draws from 5", x.seed(0L), 6906002813012847257L);
        Due.same("nothing else changes", x.count(5) + x.count(14) + x.wheel(0, 0), 0);
    }

    private static void drawnLoses() {
        SpinWheels x = Due.craft(GROWING);
        x.tick(5);
        // in safe mode the commands do not matter, but they are drawn
        Due.same("drawn(7) in safe mode", x.drawn(7), 7);
        long seed = 0L;
        for (int i = 0; i < 7; i++) {
            seed = seed * 6364136223846793005L + 1442695040888963407L;
        }
        Due.same("seven draws in safe mode", x.seed(0L), seed);
        x.undo();
        for (long start = 0L; start < 40L; start++) {
            x.seed(start);
            x.drawn(1);
            Due.sameFloat("the disturbance is gone", x.plan(2), 4.75f);
            Due.sameFloat("the disturbance is gone", x.next(1), -4.25f);
            Due.sameFloat("the disturbance is gone", x.next(2), -4.25f);
        }
        // each tick alone can be had by commands: the disturbed ones, which stay within 9 here
        for (long start = -40L; start <= 40L; start++) {
            x = Due.craft("K12015w+1-2+3f+3-8+1");
            x.seed(start * 0x9E3779B97F4A7C15L);
            int got = x.drawn(20);
            Due.same("drawn(20) from " + start, got,
                lostWith(Due.craft("K12015w+1-2+3f+3-8+1"), start * 0x9E3779B97F4A7C15L));
            Due.same("the command is as before", x.told(true, 0, 0), 1);
            Due.same("plan(0) is as before", x.plan(0), Due.craft("K12015w+1-2+3f+3-8+1").plan(0));
        }
    }

    private static int lostWith(SpinWheels y, long start) {
        long seed = start;
        for (int i = 0; i < 20; i++) {
            seed = seed * 6364136223846793005L + 1442695040888963407L;
            int v = (int) (seed >>> 33);
            y.want(0, 1 + v % 7 - 3, -2 + v / 8 % 7 - 3, 3 + v / 64 % 7 - 3);
            y.tick(1);
        }
        return y.count(6) + y.count(8);
    }

    private static void keep() {
        SpinWheels x = new SpinWheels();
        Due.same("keep(-1)", x.keep(-1), -1);
        Due.same("keep(2)", x.keep(2), -1);
        Due.same("keep(0)", x.keep(0), 0);
        x.tick(4);
        Due.same("keep(1)", x.keep(1), 4);
        x.tick(4);
        Due.same("keep(0) again", x.keep(0), 8);
        Due.same("no act", x.count(14), 2);
        x.tick(1);
        Due.same("again(1)", x.again(1), 4);
        Due.same("again(0)", x.again(0), 8);
    }

    private static void again() {
        SpinWheels x = Due.worn();
        Due.same("again(-1)", x.again(-1), -1);
        Due.same("again(2)", x.again(2), -1);
        Due.same("again(0) of nothing", x.again(0), -3);
        Due.same("again(1) of nothing", x.again(1), -3);
        int[] before = Due.seen(x);
        x.keep(1);
        Due.same("the other slot", x.again(0), -3);
        Due.same("an error leaves the acts", x.count(14), 5);
        Due.wearOut(x);
        x.see(1, 0, 1, 1);
        x.seed(44L);
        for (int round = 0; round < 2; round++) {
            Due.same("again(1)", x.again(1), 20);
            int[] after = Due.seen(x);
            for (int i = 0; i < before.length; i++) {
                Due.same("restored, number " + i, after[i], before[i]);
            }
            Due.same("undo() then", x.undo(), -3);
            Due.same("count(14) then", x.count(14), 0);
            Due.same("observations stay", x.count(15), 1);
            x.tick(3);
            Due.same("an act then", x.count(14), 1);
        }
        Due.same("the seed stays", x.seed(0L), 44);
        Due.same("undo() of an act after again()", x.undo(), 0);
        Due.same("its clock", x.count(5), 20);
    }

    private static void count() {
        SpinWheels x = Due.craft("K10126w+9+9+9w+9+9+9f+0+0+0");
        x.write('?');
        x.see(0, 0, 0, 0);
        x.see(0, 0, 0, 0);
        x.see(0, 0, 0, 0);
        x.tick(3);
        x.kill(3);
        x.tick(1);
        x.set(0, 98);
        int[] due = {28, 2, 1, 8, 0, 4, x.later(0, 1), x.later(0, 2), 0, x.later(0, 4), 98, 1, 2, 6, 4, 3};
        for (int i = 0; i < 16; i++) {
            Due.same("count(" + i + ")", x.count(i), due[i]);
        }
        Due.isTrue("missed and the run are dull", x.count(6) > 0 && x.count(9) > 0);
        Due.same("count(-1)", x.count(-1), -2);
        Due.same("count(16)", x.count(16), -2);
        Due.same("count(MAX)", x.count(Integer.MAX_VALUE), -2);
    }
}
