/** Edge cases of promises 24 to 33: observations, shares, probabilities, slots and numbers. */
public final class ChanceEdgeTest {
    private static final int MIN = Integer.MIN_VALUE;
    private static final int MAX = Integer.MAX_VALUE;
    private static final long FACTOR = 6364136223846793005L;
    private static final long MORE = 1442695040888963407L;
    /** Without coils: the speeds are (4.75, -4.25, ..), (9.5, -8.5, ..), and from the third tick on all are missed. */
    private static final String MISSING = "K10005w+9+9+9";
    /** Without wheel 1 or 2 a speed grows by 2 in each tick, otherwise by 1 at most. */
    private static final String APART = "005w+2-2+0";

    public static void main(String[] args) {
        Edges.run(ChanceEdgeTest.class, 24, 33);
        Due.end("ChanceEdgeTest");
    }

    private static SpinWheels after(String text, int ticks) {
        SpinWheels x = Due.craft(text);
        x.tick(ticks);
        return x;
    }

    private static SpinWheels spinning() {
        return after(MISSING, 5);
    }

    // ---- promise 24: see

    static void p24_see_nMinus1IsOutside() {
        Edges.refuses("see", SpinWheels.OUTSIDE, Edges::busy, (x, n) -> x.see(n, 0, 0, 0), -1, MIN);
    }

    static void p24_see_n10IsOutside() {
        Edges.refuses("see", SpinWheels.OUTSIDE, Edges::busy, (x, n) -> x.see(n, 0, 0, 0), 10, MAX);
    }

    static void p24_see_whatMinus1IsOutside() {
        Edges.refuses("see", SpinWheels.OUTSIDE, Edges::busy, (x, what) -> x.see(0, what, 0, 0), -1, MIN);
    }

    static void p24_see_what3IsOutside() {
        Edges.refuses("see", SpinWheels.OUTSIDE, Edges::busy, (x, what) -> x.see(0, what, 0, 0), 3, MAX);
    }

    static void p24_see_modeOutside() {
        Edges.refuses("see", SpinWheels.OUTSIDE, Edges::busy, (x, v) -> x.see(0, 0, v, 0), -1, 2, MIN, MAX);
    }

    static void p24_see_missedOutside() {
        Edges.refuses("see", SpinWheels.OUTSIDE, Edges::busy, (x, v) -> x.see(0, 1, v, 0), -1, 100, MIN, MAX);
    }

    static void p24_see_wheelOutside() {
        Edges.refuses("see", SpinWheels.OUTSIDE, Edges::busy, (x, v) -> x.see(0, 2, v, 0), -1, 4, MIN, MAX);
    }

    static void p24_see_wasOutside() {
        Edges.refuses("see", SpinWheels.OUTSIDE, Edges::busy, (x, was) -> x.see(0, 0, 0, was), -1, 2, MIN, MAX);
    }

    private static void taken(int n, int what, int v, int was) {
        SpinWheels x = new SpinWheels();
        Due.same("see(" + n + ", " + what + ", " + v + ", " + was + ")", x.see(n, what, v, was), 1);
        Edges.counts(x, 15, 1, 14, 0);
    }

    static void p24_see_n0And9AreTaken() {
        taken(0, 0, 0, 1);
        taken(9, 0, 0, 1);
    }

    static void p24_see_mode0And1AreTaken() {
        taken(5, 0, 0, 0);
        taken(5, 0, 1, 1);
    }

    static void p24_see_missed0And99AreTaken() {
        taken(5, 1, 0, 0);
        taken(5, 1, 99, 1);
    }

    static void p24_see_wheels0And3AreTaken() {
        taken(5, 2, 0, 0);
        taken(5, 2, 3, 1);
    }

    static void p24_see_theSixthIsTaken() {
        SpinWheels x = new SpinWheels();
        for (int i = 1; i <= 6; i++) {
            Due.same("see(), no. " + i, x.see(i, 1, i, 0), i);
        }
        Edges.counts(x, 15, 6);
    }

    static void p24_see_theSeventhIsFull() {
        Edges.refuses("see", SpinWheels.FULL, Edges::watched, (x, n) -> x.see(n, 0, 1, 1), 0, 9);
    }

    static void p24_see_outsideComesBeforeFull() {
        Edges.refuses("see", SpinWheels.OUTSIDE, Edges::watched, (x, n) -> x.see(n, 0, 0, 0), -1, 10);
        Edges.refuses("see", SpinWheels.OUTSIDE, Edges::watched, (x, what) -> x.see(0, what, 0, 0), -1, 3);
        Edges.refuses("see", SpinWheels.OUTSIDE, Edges::watched, (x, v) -> x.see(0, 2, v, 0), -1, 4);
        Edges.refuses("see", SpinWheels.OUTSIDE, Edges::watched, (x, was) -> x.see(0, 0, 0, was), -1, 2);
    }

    static void p24_see_roomAgainAfterUnsee() {
        SpinWheels x = Edges.watched();
        x.unsee();
        for (int i = 1; i <= 6; i++) {
            Due.same("see(), no. " + i, x.see(0, 0, 0, 1), i);
        }
        Due.same("see(), no. 7", x.see(0, 0, 0, 1), SpinWheels.FULL);
    }

    static void p24_see_addsAnObservationAlone() {
        SpinWheels x = Edges.busy();
        x.unsee();
        x.see(1, 0, 0, 1);
        x.see(2, 2, 2, 0);
        Edges.sameInAll("seen again", x, Edges.busy());
    }

    // ---- promise 25: unsee

    static void p25_unsee_ofNone() {
        Edges.changesNothing("unsee()", 0, Edges::fresh, x -> x.unsee());
    }

    static void p25_unsee_ofOne() {
        SpinWheels x = new SpinWheels();
        x.see(0, 0, 1, 1);
        Due.same("which()", x.which(), 0);
        Due.same("unsee()", x.unsee(), 1);
        Edges.sameInAll("removed", x, new SpinWheels());
    }

    static void p25_unsee_ofSix() {
        SpinWheels x = Edges.watched();
        Due.same("unsee()", x.unsee(), 6);
        Edges.counts(x, 15, 0);
        Due.same("unsee() again", x.unsee(), 0);
    }

    static void p25_unsee_leavesTheCraft() {
        SpinWheels x = Edges.watched();
        x.unsee();
        SpinWheels y = Edges.busy();
        y.unsee();
        Edges.sameInAll("removed", x, y);
    }

    // ---- promise 26: which

    private static void which(SpinWheels x, int due) {
        Due.same("which()", x.which(), due);
    }

    static void p26_which_withoutObservations() {
        Edges.changesNothing("which()", 15, Edges::fresh, x -> x.which());
        which(Edges.growing(10), 7);
    }

    static void p26_which_allDead() {
        Edges.changesNothing("which()", 0, Edges::lifeless, x -> x.which());
        SpinWheels x = Edges.lifeless();
        x.unsee();
        which(x, 0);
    }

    static void p26_which_oneAlive() {
        for (int i = 0; i < 4; i++) {
            SpinWheels x = Edges.lifeless();
            x.unsee();
            x.mend(i);
            which(x, 1 << i);
        }
    }

    static void p26_which_theFirstAndTheSixthCount() {
        for (int wrong = 0; wrong < 6; wrong++) {
            SpinWheels x = new SpinWheels();
            for (int i = 0; i < 6; i++) {
                x.see(0, 0, 0, i == wrong ? 0 : 1);
            }
            which(x, 0);
        }
        which(Edges.watched(), Edges.busy().which());
    }

    static void p26_which_n0IsJustAfterTheDeath() {
        SpinWheels x = after("K50005w+4+0+0", 1);
        x.see(0, 2, 2, 1);
        x.see(0, 2, 0, 0);
        which(x, 15);
        x.kill(1);
        x.unsee();
        x.see(0, 0, 1, 1);
        which(x, 13);
    }

    static void p26_which_n9() {
        // without wheel 1 or 2 the ninth tick comes to 18
        SpinWheels x = Due.craft("K17" + APART);
        x.see(9, 1, 1, 1);
        which(x, 6);
        x.see(8, 1, 0, 1);
        which(x, 6);
        x = Due.craft("K18" + APART);
        x.see(9, 1, 1, 1);
        which(x, 0);
        x.unsee();
        x.see(9, 1, 0, 1);
        which(x, 15);
    }

    static void p26_which_missedBeforeCounts() {
        SpinWheels x = after(MISSING, 3);
        x.want(0, 0, 0, 0);
        x.see(0, 1, 1, 1);
        x.see(9, 1, 1, 1);
        which(x, 15);
        x.see(0, 1, 0, 1);
        which(x, 0);
    }

    static void p26_which_missed99() {
        SpinWheels x = after(MISSING, 2);
        for (int i = 0; i < 99; i++) {
            x.tick(1);
            x.free();
        }
        x.see(0, 1, 99, 1);
        which(x, 15);
        x.tick(1);
        which(x, 0);
    }

    static void p26_which_speed0IsNotBelow0() {
        SpinWheels x = Due.craft("K50005w+0+0+0");
        x.see(3, 2, 0, 0);
        x.see(3, 2, 3, 0);
        which(x, 15);
        x.see(3, 2, 1, 1);
        which(x, 0);
    }

    static void p26_which_speedOfTheKilledWheel() {
        // (0, 1, -1, 0): without commands wheel 2 stays at -1, killed or not
        SpinWheels x = after("K50005w+2-2+0", 1);
        x.want(0, 0, 0, 0);
        x.see(9, 2, 2, 1);
        which(x, 15);
        x.want(0, 0, 4, 0);
        // b.y of wheel 2 is 0 without wheel 0, and 2 without wheel 1 or 3: it rises then
        which(x, 5);
    }

    static void p26_which_nowIsTheTimeOfTheCall() {
        SpinWheels x = new SpinWheels();
        x.see(0, 0, 1, 1);
        which(x, 0);
        x.kill(3);
        which(x, 7);
        x.undo();
        which(x, 0);
    }

    static void p26_which_secondDeathChangesTheMode() {
        Edges.changesNothing("which()", 0, Edges::busy, x -> x.which());
        SpinWheels x = Edges.growing(50);
        x.see(9, 0, 1, 1);
        x.see(9, 2, 0, 0);
        which(x, 7);
    }

    // ---- promise 27: share

    private static void share(SpinWheels x, int wheel, int over, int under) {
        Due.same("share(" + wheel + ", true)", x.share(wheel, true), over);
        Due.same("share(" + wheel + ", false)", x.share(wheel, false), under);
    }

    static void p27_share_wheelMinus1IsUnknown() {
        Edges.refuses("share", SpinWheels.UNKNOWN, Edges::busy, (x, i) -> x.share(i, true), -1, MIN);
        Edges.refuses("share", SpinWheels.UNKNOWN, Edges::busy, (x, i) -> x.share(i, false), -1, MIN);
    }

    static void p27_share_wheel4IsUnknown() {
        Edges.refuses("share", SpinWheels.UNKNOWN, Edges::lifeless, (x, i) -> x.share(i, true), 4, MAX);
        Edges.refuses("share", SpinWheels.UNKNOWN, Edges::lifeless, (x, i) -> x.share(i, false), 4, MAX);
    }

    static void p27_share_deadWheelIsState() {
        Edges.refuses("share", SpinWheels.STATE, Edges::busy, (x, i) -> x.share(i, true), 2);
        Edges.refuses("share", SpinWheels.STATE, Edges::lifeless, (x, i) -> x.share(i, false), 0, 1, 2, 3);
    }

    static void p27_share_leastAndGreatestWheel() {
        SpinWheels x = new SpinWheels();
        share(x, 0, 5, 1);
        share(x, 3, 5, 1);
    }

    static void p27_share_the20thTickCounts() {
        // without wheel 1 or 2 the 20th tick comes to 40: 19 ticks are left
        SpinWheels x = Due.craft("K39" + APART);
        share(x, 0, 29, 6);
        share(x, 1, 31, 6);
        share(x, 2, 31, 6);
        share(x, 3, 29, 6);
    }

    static void p27_share_the21stTickDoesNotCount() {
        SpinWheels x = Due.craft("K40" + APART);
        for (int i = 0; i < 4; i++) {
            share(x, i, 5, 1);
        }
    }

    static void p27_share_oneDeadWheelNow() {
        // two alone are too few, so each of the three is needed
        SpinWheels x = Edges.growing(50);
        for (int i = 0; i < 3; i++) {
            share(x, i, 20, 3);
        }
    }

    static void p27_share_0Is0Over1() {
        SpinWheels x = spinning();
        share(x, 0, 0, 1);
        x = Edges.safe();
        share(x, 1, 0, 1);
        share(x, 3, 0, 1);
    }

    static void p27_share_oneWheelAlive() {
        for (int i = 0; i < 4; i++) {
            SpinWheels x = Edges.lifeless();
            x.mend(i);
            share(x, i, 0, 1);
        }
    }

    static void p27_share_below0TheNumeratorIs() {
        SpinWheels x = Due.craft("K12721w+2-5+2w+5+1-4f+5-2+6");
        share(x, 0, -1, 12);
    }

    static void p27_share_speedsAreAsTheyAre() {
        // at 39 of 40 one tick is left to three wheels, as the axes without 3 let wheel 0 grow
        SpinWheels x = Due.craft("K40005w+2+0+0");
        x.kill(3);
        x.tick(39);
        x.mend(3);
        int[] kept = {20 - lostWithout(x, 0), 20 - lostWithout(x, 1), 20 - lostWithout(x, 2), 20 - lostWithout(x, 3)};
        int all = 20 - (x.later(20, 1) - x.count(6) + x.later(20, 3));
        for (int i = 0; i < 4; i++) {
            int over = 6 * (all - kept[i]) + 2 * (kept[0] + kept[1] + kept[2] + kept[3] - kept[i]);
            Due.same("share(" + i + ", ..) * 24", x.share(i, true) * (24 / x.share(i, false)), over);
        }
        Due.same("without wheel 3", kept[3], 1);
    }

    private static int lostWithout(SpinWheels x, int wheel) {
        x.kill(wheel);
        int lost = x.later(20, 1) - x.count(6) + x.later(20, 3) - x.count(8);
        x.undo();
        return lost;
    }

    static void p27_share_isAskedAnewAfterAChange() {
        SpinWheels x = new SpinWheels();
        share(x, 3, 5, 1);
        x.kill(0);
        share(x, 3, 20, 3);
        x.kill(1);
        share(x, 3, 0, 1);
        x.undo();
        share(x, 3, 20, 3);
        x.undo();
        share(x, 3, 5, 1);
    }

    static void p27_share_changesNothing() {
        Edges.changesNothing("share(0, true)", Edges.busy().share(0, true), Edges::busy, x -> x.share(0, true));
        Edges.changesNothing("share(3, false)", Edges.busy().share(3, false), Edges::busy, x -> x.share(3, false));
    }

    // ---- promise 28: lost

    private static void lost(SpinWheels x, int tenths, int over, int under) {
        Due.same("lost(" + tenths + ", true)", x.lost(tenths, true), over);
        Due.same("lost(" + tenths + ", false)", x.lost(tenths, false), under);
    }

    static void p28_lost_xMinus1IsOutside() {
        Edges.refuses("lost", SpinWheels.OUTSIDE, Edges::busy, (x, v) -> x.lost(v, true), -1, MIN);
        Edges.refuses("lost", SpinWheels.OUTSIDE, Edges::busy, (x, v) -> x.lost(v, false), -1, MIN);
    }

    static void p28_lost_x11IsOutside() {
        Edges.refuses("lost", SpinWheels.OUTSIDE, Edges::busy, (x, v) -> x.lost(v, true), 11, MAX);
        Edges.refuses("lost", SpinWheels.OUTSIDE, Edges::lifeless, (x, v) -> x.lost(v, false), 11, MAX);
    }

    static void p28_lost_x0KillsNone() {
        lost(new SpinWheels(), 0, 1, 1);
        lost(Edges.growing(20), 0, 1, 1);
        lost(Edges.growing(19), 0, 0, 1);
    }

    static void p28_lost_x10KillsAll() {
        lost(new SpinWheels(), 10, 0, 1);
        lost(Edges.growing(50), 10, 0, 1);
    }

    static void p28_lost_x1AndX9() {
        // (9^4 + 4 * 9^3) and (1 + 4 * 9) of 10000
        lost(new SpinWheels(), 1, 9477, 10000);
        lost(new SpinWheels(), 9, 37, 10000);
    }

    static void p28_lost_the20thTickCounts() {
        lost(Due.craft("K38" + APART), 5, 3, 16);
        lost(Due.craft("K39" + APART), 5, 3, 16);
    }

    static void p28_lost_the21stTickDoesNotCount() {
        lost(Due.craft("K40" + APART), 5, 5, 16);
    }

    static void p28_lost_inMode1Is0Over1() {
        for (int x = 0; x <= 10; x++) {
            lost(spinning(), x, 0, 1);
            lost(Edges.safe(), x, 0, 1);
        }
    }

    static void p28_lost_allDead() {
        lost(Edges.lifeless(), 0, 0, 1);
        lost(Edges.lifeless(), 5, 0, 1);
        lost(Edges.lifeless(), 10, 0, 1);
    }

    static void p28_lost_isAskedAnewAfterAChange() {
        SpinWheels x = new SpinWheels();
        lost(x, 2, 512, 625);
        x.kill(0);
        lost(x, 2, 64, 125);
        x.kill(1);
        lost(x, 2, 0, 1);
        x.undo();
        lost(x, 2, 64, 125);
    }

    static void p28_lost_earlierMissesDoNotCount() {
        SpinWheels x = after(MISSING, 3);
        x.want(0, 0, 0, 0);
        lost(x, 0, 1, 1);
    }

    static void p28_lost_changesNothing() {
        Edges.changesNothing("lost(10, true)", 0, Edges::busy, x -> x.lost(10, true));
        Edges.changesNothing("lost(0, false)", 1, Edges::busy, x -> x.lost(0, false));
    }

    // ---- promise 29: seed

    static void p29_seed_leastAndGreatest() {
        SpinWheels x = new SpinWheels();
        Due.same("seed(MIN)", x.seed(Long.MIN_VALUE), 0);
        Due.same("seed(MAX)", x.seed(Long.MAX_VALUE), Long.MIN_VALUE);
        Due.same("seed(-1)", x.seed(-1L), Long.MAX_VALUE);
        Due.same("seed(0)", x.seed(0L), -1);
        Due.same("seed(0) again", x.seed(0L), 0);
    }

    static void p29_seed_allBitsAreKept() {
        SpinWheels x = new SpinWheels();
        x.seed(0x123456789ABCDEF0L);
        Due.same("seed(0)", x.seed(0L), 0x123456789ABCDEF0L);
    }

    static void p29_seed_changesTheSeedAlone() {
        SpinWheels x = Edges.busy();
        Due.same("seed(4)", x.seed(4L), 99);
        x.seed(99L);
        Edges.sameInAll("set back", x, Edges.busy());
    }

    // ---- promise 30: drawn

    static void p30_drawn_m0IsOutside() {
        Edges.refuses("drawn", SpinWheels.OUTSIDE, Edges::busy, SpinWheels::drawn, 0, -1, MIN);
    }

    static void p30_drawn_m21IsOutside() {
        Edges.refuses("drawn", SpinWheels.OUTSIDE, Edges::safe, SpinWheels::drawn, 21, MAX);
    }

    private static long seedAfter(long start, int draws) {
        long seed = start;
        for (int i = 0; i < draws; i++) {
            seed = seed * FACTOR + MORE;
        }
        return seed;
    }

    static void p30_drawn_m1DrawsOnce() {
        SpinWheels x = Edges.safe();
        Due.same("drawn(1)", x.drawn(1), 1);
        Due.same("seed(0)", x.seed(0L), seedAfter(99L, 1));
    }

    static void p30_drawn_m20Draws20Times() {
        SpinWheels x = Edges.safe();
        Due.same("drawn(20)", x.drawn(20), 20);
        Due.same("seed(0)", x.seed(0L), seedAfter(99L, 20));
    }

    static void p30_drawn_seedWrapsAround() {
        SpinWheels x = new SpinWheels();
        // the factor is odd, so Long.MIN_VALUE times the factor is Long.MIN_VALUE again
        long[][] pairs = {{0L, MORE}, {-1L, MORE - FACTOR}, {2L, -4275776585127002199L},
            {Long.MAX_VALUE, Long.MIN_VALUE - FACTOR + MORE}, {Long.MIN_VALUE, Long.MIN_VALUE + MORE}};
        for (long[] p : pairs) {
            x.seed(p[0]);
            x.drawn(1);
            Due.same("the seed after " + p[0], x.seed(0L), p[1]);
        }
    }

    static void p30_drawn_disturbsByMinus3To3() {
        // without wheel 3, from rest: wheel 0 comes to (x + y) / 2, 1 to (x - z) / 2 and 2 to (y - z) / 2
        int[] seen = new int[7];
        for (long seed = 0; seed < 200; seed++) {
            SpinWheels x = Due.craft("K10005w+9+9+9");
            x.kill(3);
            x.seed(seed);
            int v = (int) (seedAfter(seed, 1) >>> 33);
            int dx = v % 7 - 3;
            int dy = v / 8 % 7 - 3;
            int dz = v / 64 % 7 - 3;
            Due.same("drawn(1) of the seed " + seed, x.drawn(1), 18 + dx + dy > 20 ? 1 : 0);
            seen[dx + 3]++;
            // along z: with (9, -9, -9) wheel 1 comes to (18 + dx - dz) / 2
            x.want(0, 9, -9, -9);
            x.seed(seed);
            Due.same("drawn(1) along z of the seed " + seed, x.drawn(1), 18 + dx - dz > 20 ? 1 : 0);
        }
        for (int d = 0; d < 7; d++) {
            Due.isTrue("no disturbance of " + (d - 3), seen[d] > 0);
        }
    }

    static void p30_drawn_withoutCommandsFrom0() {
        int sum = 0;
        for (long seed = 0; seed < 60; seed++) {
            SpinWheels x = Edges.growing(10);
            x.want(0, 0, 0, 0);
            x.seed(seed);
            int due = x.drawn(20);
            SpinWheels y = Due.craft("K10005");
            y.kill(3);
            y.seed(seed);
            // a speed changes by 3 at most in a tick
            Due.same("drawn(3) of the seed " + seed, y.drawn(3), 0);
            y.seed(seed);
            Due.same("drawn(20) of the seed " + seed, y.drawn(20), due);
            sum += due;
        }
        Due.isTrue("nothing was lost", sum > 0);
    }

    static void p30_drawn_commandsBeginAnewAfterTheLast() {
        // wheel 0 gains 8, and 3 more or less, and loses it again; without the second command it comes to 100 or more
        SpinWheels x = Due.craft("K99005w+8+8+8w-8-8-8");
        SpinWheels y = Due.craft("K99005w+8+8+8");
        x.kill(3);
        y.kill(3);
        for (long seed = 0; seed < 40; seed++) {
            x.seed(seed);
            Due.same("drawn(20) there and back", x.drawn(20), 0);
            y.seed(seed);
            Due.isTrue("drawn(20) there alone", y.drawn(20) > 0);
        }
    }

    static void p30_drawn_changesTheSeedAlone() {
        SpinWheels x = Edges.busy();
        x.drawn(20);
        Due.same("seed(99)", x.seed(99L), seedAfter(99L, 20));
        Edges.sameInAll("drawn", x, Edges.busy());
        x = Edges.safe();
        x.drawn(1);
        x.seed(99L);
        Edges.sameInAll("drawn", x, Edges.safe());
    }

    static void p30_drawn_leavesNoDisturbance() {
        for (long seed = 0; seed < 30; seed++) {
            SpinWheels x = Due.craft("K50005w+4+0+0");
            x.seed(seed);
            x.drawn(1);
            Due.sameFloat("next(0)", x.next(0), 1f);
            Due.sameFloat("ahead(1, 1)", x.ahead(1, 1), 1f);
            x.tick(1);
            Edges.speeds(x, 1f, 1f, -1f, -1f);
        }
    }

    static void p30_drawn_missedAndSafeTicksAreLost() {
        // no disturbance saves one of the next three ticks, and the rest is safe
        for (long seed = 0; seed < 20; seed++) {
            SpinWheels x = after(MISSING, 2);
            for (int m = 1; m <= 20; m++) {
                x.seed(seed);
                Due.same("drawn(" + m + ") of the seed " + seed, x.drawn(m), m);
            }
        }
    }

    static void p30_drawn_earlierMissesDoNotCount() {
        SpinWheels x = spinning();
        x.tick(9);
        Due.same("drawn(1)", x.drawn(1), 1);
    }

    // ---- promise 31: keep

    static void p31_keep_slotMinus1IsUnknown() {
        Edges.refuses("keep", SpinWheels.UNKNOWN, Edges::busy, SpinWheels::keep, -1, MIN);
        Edges.refuses("keep", SpinWheels.UNKNOWN, Edges::fresh, SpinWheels::keep, -1);
    }

    static void p31_keep_slot2IsUnknown() {
        Edges.refuses("keep", SpinWheels.UNKNOWN, Edges::busy, SpinWheels::keep, 2, MAX);
        Edges.refuses("keep", SpinWheels.UNKNOWN, Edges::fresh, SpinWheels::keep, 2);
    }

    static void p31_keep_slots0And1AreApart() {
        SpinWheels x = Edges.ticked(1);
        Due.same("keep(0)", x.keep(0), 1);
        Due.same("again(1)", x.again(1), SpinWheels.STATE);
        x.tick(1);
        Due.same("keep(1)", x.keep(1), 2);
        Due.same("again(0)", x.again(0), 1);
        Due.same("again(1)", x.again(1), 2);
    }

    static void p31_keep_whatWasSavedBeforeIsLost() {
        for (int slot = 0; slot < 2; slot++) {
            SpinWheels x = Edges.ticked(1);
            x.keep(slot);
            x.tick(5);
            Due.same("keep(" + slot + ")", x.keep(slot), 6);
            x.tick(1);
            Due.same("again(" + slot + ")", x.again(slot), 6);
        }
    }

    static void p31_keep_clock0() {
        SpinWheels x = new SpinWheels();
        Due.same("keep(0)", x.keep(0), 0);
        x.tick(4);
        Due.same("again(0)", x.again(0), 0);
        Edges.counts(x, 5, 0);
    }

    static void p31_keep_isNoAct() {
        SpinWheels x = Edges.ticked(14);
        x.keep(0);
        Edges.counts(x, 14, 14);
        Due.same("undo()", x.undo(), 13);
        Edges.counts(x, 5, 13);
    }

    // ---- promise 32: again

    static void p32_again_slotMinus1IsUnknown() {
        Edges.refuses("again", SpinWheels.UNKNOWN, Edges::busy, SpinWheels::again, -1, MIN);
        Edges.refuses("again", SpinWheels.UNKNOWN, Edges::fresh, SpinWheels::again, -1);
    }

    static void p32_again_slot2IsUnknown() {
        Edges.refuses("again", SpinWheels.UNKNOWN, Edges::busy, SpinWheels::again, 2, MAX);
        Edges.refuses("again", SpinWheels.UNKNOWN, Edges::fresh, SpinWheels::again, 2);
    }

    static void p32_again_ofAnEmptySlotIsState() {
        Edges.refuses("again", SpinWheels.STATE, () -> Edges.ticked(3), SpinWheels::again, 0, 1);
    }

    static void p32_again_ofTheOtherSlotIsState() {
        for (int slot = 0; slot < 2; slot++) {
            int kept = slot;
            Edges.refuses("again", SpinWheels.STATE, () -> {
                SpinWheels x = Edges.ticked(3);
                x.keep(kept);
                return x;
            }, SpinWheels::again, 1 - slot);
        }
    }

    static void p32_again_afterCraftIsState() {
        Edges.refuses("again", SpinWheels.STATE, () -> {
            SpinWheels x = Edges.busy();
            x.craft();
            x.tick(1);
            return x;
        }, SpinWheels::again, 0, 1);
    }

    static void p32_again_afterACraftThatIsRefused() {
        SpinWheels x = Edges.busy();
        x.write('?');
        Due.same("craft()", x.craft(), SpinWheels.STATE);
        Due.same("again(0)", x.again(0), 3);
        Due.same("again(1)", x.again(1), 5);
    }

    static void p32_again_whatIsSavedAfterCraft() {
        SpinWheels x = Edges.busy();
        x.craft();
        x.tick(2);
        Due.same("keep(1)", x.keep(1), 2);
        x.tick(2);
        Due.same("again(0)", x.again(0), SpinWheels.STATE);
        Due.same("again(1)", x.again(1), 2);
    }

    static void p32_again_staysSaved() {
        SpinWheels x = Edges.busy();
        for (int i = 0; i < 3; i++) {
            Due.same("again(0)", x.again(0), 3);
            x.tick(9);
            x.set(0, 11 + i);
            x.want(1, i, i, i);
            Due.same("again(1)", x.again(1), 5);
            Edges.counts(x, 3, 4, 10, 20, 12, 4);
            Due.same("told(true, 1, 1)", x.told(true, 1, 1), -7);
        }
        Due.same("again(0)", x.again(0), 3);
        Edges.counts(x, 3, 0, 10, 20, 12, 1);
        Due.same("told(true, 1, 1)", x.told(true, 1, 1), 5);
    }

    static void p32_again_nothingCanBeUndoneThen() {
        SpinWheels x = Edges.busy();
        x.again(1);
        Edges.counts(x, 14, 0);
        Due.same("undo()", x.undo(), SpinWheels.STATE);
        x.kill(0);
        Due.same("undo() of an act behind it", x.undo(), 0);
        Edges.counts(x, 3, 4, 5, 5);
    }

    static void p32_again_restoresAllThatIsSaved() {
        SpinWheels x = Due.worn();
        x.keep(0);
        int[] before = Due.seen(x);
        Due.wearOut(x);
        Due.same("again(0)", x.again(0), 20);
        int[] after = Due.seen(x);
        for (int i = 0; i < before.length; i++) {
            Due.same("number " + i, after[i], before[i]);
        }
    }

    static void p32_again_restoresTheFirstAndTheSixthCommand() {
        SpinWheels x = Due.craft("K50005w+1+2+3" + "w+0+0+0".repeat(4) + "w-4-5-6");
        x.keep(1);
        x.want(0, 9, 9, 9);
        x.want(5, 8, 8, 8);
        x.again(1);
        for (int k = 0; k < 3; k++) {
            Due.same("told(true, 0, " + k + ")", x.told(true, 0, k), 1 + k);
            Due.same("told(true, 5, " + k + ")", x.told(true, 5, k), -4 - k);
        }
    }

    static void p32_again_textObservationsAndSeedStay() {
        SpinWheels x = Edges.busy();
        x.write('?');
        x.see(0, 0, 0, 1);
        x.seed(-5L);
        x.again(0);
        Edges.counts(x, 0, 35, 15, 3);
        Due.same("seed(0)", x.seed(0L), -5);
    }

    // ---- promise 33: count

    static void p33_count_whatMinus1IsOutside() {
        Edges.refuses("count", SpinWheels.OUTSIDE, Edges::busy, SpinWheels::count, -1, MIN);
    }

    static void p33_count_what16IsOutside() {
        Edges.refuses("count", SpinWheels.OUTSIDE, Edges::busy, SpinWheels::count, 16, MAX);
    }

    static void p33_count_leastAndGreatestWhat() {
        Edges.changesNothing("count(0)", 34, Edges::busy, x -> x.count(0));
        Edges.changesNothing("count(15)", 2, Edges::busy, x -> x.count(15));
    }

    static void p33_count_allOfABusyCraft() {
        SpinWheels x = Edges.safe();
        Edges.counts(x, 0, 34, 1, 2, 2, 2, 3, 5, 4, 1, 5, 8, 8, 2, 10, 20, 11, 1, 12, 4, 13, 3, 14, 8, 15, 2);
        x = after(MISSING, 4);
        Edges.counts(x, 6, 2, 9, 2);
        Edges.counts(after("K50005w+4+0+0w-8+0+0", 2), 7, 4);
    }

    static void p33_count_fullTextListsAndStores() {
        Edges.counts(Edges.wordy(), 0, 120);
        Edges.counts(Due.craft("K50115" + "w+1+1+1".repeat(6) + "f+1+1+1".repeat(6)), 1, 6, 2, 6);
        Edges.counts(Edges.lifeless(), 3, 15);
        Edges.counts(Edges.ticked(30), 14, 14);
        Edges.counts(Edges.watched(), 15, 6);
    }

    static void p33_count_emptyTextListsAndStores() {
        Edges.counts(new SpinWheels(), 0, 0, 1, 0, 2, 0, 3, 0, 14, 0, 15, 0);
    }
}
