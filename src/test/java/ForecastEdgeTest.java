/** Edge cases of promises 16 to 23: the forecasts. */
public final class ForecastEdgeTest {
    private static final int MIN = Integer.MIN_VALUE;
    private static final int MAX = Integer.MAX_VALUE;
    private static final int NONE = SpinWheels.NONE;
    /** Without coils: the speeds are (4.75, -4.25, ..), (9.5, -8.5, ..), and from the third tick on all are missed. */
    private static final String MISSING = "K10005w+9+9+9";

    public static void main(String[] args) {
        Edges.run(ForecastEdgeTest.class, 16, 23);
        Due.end("ForecastEdgeTest");
    }

    private static SpinWheels after(String text, int ticks) {
        SpinWheels x = Due.craft(text);
        x.tick(ticks);
        return x;
    }

    private static SpinWheels spinning() {
        return after(MISSING, 5);
    }

    private static SpinWheels missing() {
        return after(MISSING, 2);
    }

    // ---- promise 16: plan

    static void p16_plan_whatMinus1IsOutside() {
        Edges.refuses("plan", SpinWheels.OUTSIDE, Edges::busy, SpinWheels::plan, -1, MIN);
    }

    static void p16_plan_what4IsOutside() {
        Edges.refuses("plan", SpinWheels.OUTSIDE, Edges::busy, SpinWheels::plan, 4, MAX);
    }

    static void p16_plan_inMode1IsState() {
        Edges.refuses("plan", SpinWheels.STATE, Edges::safe, SpinWheels::plan, 0, 1, 2, 3);
        Edges.refuses("plan", SpinWheels.STATE, ForecastEdgeTest::spinning, SpinWheels::plan, 0, 1, 2, 3);
    }

    static void p16_plan_outsideComesBeforeState() {
        Edges.refuses("plan", SpinWheels.OUTSIDE, Edges::safe, SpinWheels::plan, -1, 4);
    }

    static void p16_plan_ofANewObject() {
        int[] due = {-1, 0, Float.floatToIntBits(1f), 0};
        for (int i = 0; i < 4; i++) {
            int what = i;
            Edges.changesNothing("plan(" + i + ")", due[i], Edges::fresh, x -> x.plan(what));
        }
    }

    static void p16_plan_ofATickThatWouldBeMissed() {
        int[] due = {-3, 0, Float.floatToIntBits(13.75f), 1};
        for (int i = 0; i < 4; i++) {
            int what = i;
            Edges.changesNothing("plan(" + i + ")", due[i], ForecastEdgeTest::missing, x -> x.plan(what));
        }
    }

    static void p16_plan_heightOfJustTheTopIsNotMissed() {
        SpinWheels x = Edges.growing(10);
        x.tick(9);
        Due.sameFloat("plan(2)", x.plan(2), 10f);
        Due.same("plan(3)", x.plan(3), 0);
        x.want(0, 3, 0, 0);
        Due.sameFloat("plan(2)", x.plan(2), 10.5f);
        Due.same("plan(3)", x.plan(3), 1);
    }

    static void p16_plan_speedOfJustTheBandIsNotNear() {
        SpinWheels x = Due.craft("K50405w+2+0+0");
        x.kill(3);
        x.tick(3);
        // 4, 4 and 0
        Due.same("plan(1)", x.plan(1), 1);
        x.set(1, 5);
        Due.same("plan(1)", x.plan(1), 3);
        x.set(1, 0);
        Due.same("plan(1)", x.plan(1), 0);
    }

    static void p16_plan_withADeadWheelTheStepIs0() {
        Edges.changesNothing("plan(0)", 0, Edges::busy, x -> x.plan(0));
        SpinWheels x = new SpinWheels();
        x.kill(0);
        Due.same("plan(0)", x.plan(0), 0);
        Due.same("plan(1)", x.plan(1), 3);
        Due.same("plan(2)", x.plan(2), 0);
    }

    // ---- promise 17: next

    static void p17_next_wheelMinus1IsUnknown() {
        Edges.refuses("next", SpinWheels.UNKNOWN, Edges::busy, SpinWheels::next, -1, MIN);
    }

    static void p17_next_wheel4IsUnknown() {
        Edges.refuses("next", SpinWheels.UNKNOWN, Edges::busy, SpinWheels::next, 4, MAX);
    }

    static void p17_next_inMode1IsState() {
        Edges.refuses("next", SpinWheels.STATE, Edges::safe, SpinWheels::next, 0, 1, 2, 3);
        Edges.refuses("next", SpinWheels.STATE, ForecastEdgeTest::spinning, SpinWheels::next, 0, 3);
    }

    static void p17_next_unknownComesBeforeState() {
        Edges.refuses("next", SpinWheels.UNKNOWN, Edges::safe, SpinWheels::next, -1, 4);
    }

    static void p17_next_leastAndGreatestWheel() {
        float[] due = {2f, 2.5f, -1.5f, 1f};
        for (int i = 0; i < 4; i++) {
            int wheel = i;
            Edges.changesNothing("next(" + i + ")", Float.floatToIntBits(due[i]), () -> Due.craft("K50115w+5-3+2"),
                x -> x.next(wheel));
        }
    }

    static void p17_next_ofADeadWheelIsItsSpeed() {
        for (int i = 0; i < 4; i++) {
            SpinWheels x = after("K50005w+1+2+4", 1);
            float[] due = {1.75f, -1.25f, -0.75f, 0.25f};
            x.kill(i);
            Due.sameFloat("next(" + i + ")", x.next(i), due[i]);
        }
        Edges.changesNothing("next(2)", Edges.busy().wheel(2, 0), Edges::busy, x -> x.next(2));
    }

    static void p17_next_whetherItWouldBeMissedOrNot() {
        float[] due = {13.25f, -13.75f, -13.75f, -13.75f};
        for (int i = 0; i < 4; i++) {
            int wheel = i;
            Edges.changesNothing("next(" + i + ")", Float.floatToIntBits(due[i]), ForecastEdgeTest::missing,
                x -> x.next(wheel));
        }
    }

    static void p17_next_withoutWhatTheCoilsTake() {
        Due.sameFloat("next(0)", Due.craft("K50015w+4+0+0f+0+0+8").next(0), 1f);
        Due.sameFloat("next(3)", Due.craft("K50015w+4+0+0f+0+0+8").next(3), -1f);
    }

    // ---- promise 18: ahead

    static void p18_ahead_nMinus1IsOutside() {
        Edges.refuses("ahead", SpinWheels.OUTSIDE, Edges::busy, (x, n) -> x.ahead(n, 0), -1, MIN);
    }

    static void p18_ahead_n100IsOutside() {
        Edges.refuses("ahead", SpinWheels.OUTSIDE, Edges::busy, (x, n) -> x.ahead(n, 3), 100, MAX);
    }

    static void p18_ahead_wheelMinus1IsUnknown() {
        Edges.refuses("ahead", SpinWheels.UNKNOWN, Edges::busy, (x, i) -> x.ahead(0, i), -1, MIN);
    }

    static void p18_ahead_wheel4IsUnknown() {
        Edges.refuses("ahead", SpinWheels.UNKNOWN, Edges::busy, (x, i) -> x.ahead(99, i), 4, MAX);
    }

    static void p18_ahead_outsideComesBeforeUnknown() {
        Edges.refuses("ahead", SpinWheels.OUTSIDE, Edges::busy, (x, i) -> x.ahead(100, i), -1, 4);
        Edges.refuses("ahead", SpinWheels.OUTSIDE, Edges::busy, (x, i) -> x.ahead(-1, i), -1, 4);
    }

    static void p18_ahead_n0IsThePresentSpeed() {
        for (int i = 0; i < 4; i++) {
            int wheel = i;
            Edges.changesNothing("ahead(0, " + i + ")", Edges.busy().wheel(i, 0), Edges::busy, x -> x.ahead(0, wheel));
        }
    }

    private static void aheadIsAsAfter(int n, Edges.Maker maker) {
        SpinWheels y = maker.make();
        y.tick(n);
        for (int i = 0; i < 4; i++) {
            int wheel = i;
            Edges.changesNothing("ahead(" + n + ", " + i + ")", y.wheel(i, 0), maker, x -> x.ahead(n, wheel));
        }
    }

    static void p18_ahead_n1() {
        aheadIsAsAfter(1, Edges::busy);
    }

    static void p18_ahead_n99() {
        aheadIsAsAfter(99, Edges::busy);
        SpinWheels x = Edges.growing(99);
        Due.sameFloat("ahead(98, 0)", x.ahead(98, 0), 98f);
        Due.sameFloat("ahead(99, 0)", x.ahead(99, 0), 99f);
    }

    static void p18_ahead_inMode1() {
        aheadIsAsAfter(99, Edges::safe);
        aheadIsAsAfter(7, ForecastEdgeTest::spinning);
        aheadIsAsAfter(1, Edges::lifeless);
    }

    // ---- promise 19: later

    static void p19_later_nMinus1IsOutside() {
        Edges.refuses("later", SpinWheels.OUTSIDE, Edges::busy, (x, n) -> x.later(n, 0), -1, MIN);
    }

    static void p19_later_n100IsOutside() {
        Edges.refuses("later", SpinWheels.OUTSIDE, Edges::busy, (x, n) -> x.later(n, 4), 100, MAX);
    }

    static void p19_later_whatMinus1IsOutside() {
        Edges.refuses("later", SpinWheels.OUTSIDE, Edges::busy, (x, what) -> x.later(0, what), -1, MIN);
    }

    static void p19_later_what5IsOutside() {
        Edges.refuses("later", SpinWheels.OUTSIDE, Edges::busy, (x, what) -> x.later(99, what), 5, MAX);
    }

    private static void laterIsAsAfter(int n, Edges.Maker maker) {
        int[] shown = {4, 6, 7, 8, 9};
        SpinWheels y = maker.make();
        if (n > 0) {
            y.tick(n);
        }
        for (int i = 0; i < shown.length; i++) {
            int what = i;
            Edges.changesNothing("later(" + n + ", " + i + ")", y.count(shown[i]), maker, x -> x.later(n, what));
        }
    }

    static void p19_later_n0IsNow() {
        laterIsAsAfter(0, Edges::busy);
        laterIsAsAfter(0, Edges::safe);
        laterIsAsAfter(0, () -> after(MISSING, 4));
    }

    static void p19_later_n99() {
        laterIsAsAfter(99, Edges::busy);
        laterIsAsAfter(99, Edges::safe);
        laterIsAsAfter(99, () -> Due.craft(MISSING));
        SpinWheels x = Edges.growing(98);
        Due.same("later(98, 1)", x.later(98, 1), 0);
        Due.same("later(99, 1)", x.later(99, 1), 1);
    }

    static void p19_later_beforeAndAtTheThirdMiss() {
        int[][] due = {{2, 0, 0, 0, 0, 0}, {3, 0, 1, 0, 0, 1}, {4, 0, 2, 0, 0, 2}, {5, 1, 3, 0, 0, 0},
            {6, 1, 3, 0, 1, 0}};
        SpinWheels x = Due.craft(MISSING);
        for (int[] d : due) {
            for (int what = 0; what < 5; what++) {
                Due.same("later(" + d[0] + ", " + what + ")", x.later(d[0], what), d[1 + what]);
            }
        }
    }

    static void p19_later_countsWhatWasBefore() {
        SpinWheels x = after(MISSING, 3);
        Due.same("later(1, 1)", x.later(1, 1), 2);
        Due.same("later(2, 0)", x.later(2, 0), 1);
        x = after("K50005w+4+0+0w-8+0+0w+8+0+0", 2);
        Due.same("later(1, 2)", x.later(1, 2), 8);
    }

    // ---- promise 20: spun

    static void p20_spun_0InMode1() {
        Edges.changesNothing("spun()", 0, Edges::safe, x -> x.spun());
        Edges.changesNothing("spun()", 0, ForecastEdgeTest::spinning, x -> x.spun());
    }

    static void p20_spun_1BeforeTheThirdMiss() {
        Edges.changesNothing("spun()", 1, () -> after(MISSING, 4), x -> x.spun());
    }

    static void p20_spun_59() {
        Edges.changesNothing("spun()", 59, () -> Edges.growing(56), x -> x.spun());
    }

    static void p20_spun_60IsFound() {
        Edges.changesNothing("spun()", 60, () -> Edges.growing(57), x -> x.spun());
    }

    static void p20_spun_61IsNone() {
        Edges.changesNothing("spun()", NONE, () -> Edges.growing(58), x -> x.spun());
    }

    static void p20_spun_neverIsNone() {
        Edges.changesNothing("spun()", NONE, Edges::fresh, x -> x.spun());
    }

    // ---- promise 21: dumps

    static void p21_dumps_12TicksAndNot11Or13() {
        // with 11 and 13 ticks it would be 8 and 9, and 9 and 6
        Due.same("dumps()", Due.craft("K50004w+3-1-0w-0+4+0f-4-9-1").dumps(), 3);
        Edges.changesNothing("dumps()", 3, () -> Due.craft("K50097w-1+3-3w+3-1+4f-7+6-7"), x -> x.dumps());
    }

    static void p21_dumps_leastGain() {
        Edges.changesNothing("dumps()", 0, Edges::fresh, x -> x.dumps());
    }

    static void p21_dumps_greatestGain() {
        Edges.changesNothing("dumps()", 9, () -> Due.craft("K15025w-1+0-5w-3+4+5f-1-2-7"), x -> x.dumps());
    }

    static void p21_dumps_ofSeveralTheSmallest() {
        // without fields all gains do the same
        Edges.changesNothing("dumps()", 0, () -> after("K50095w+4+0+0", 3), x -> x.dumps());
        // from gain 1 on the coils give all they can
        Edges.changesNothing("dumps()", 1, () -> Due.craft("K50071w+4+0+0f+0+0+8"), x -> x.dumps());
    }

    static void p21_dumps_presentGainDoesNotMatter() {
        for (int gain = 0; gain < 10; gain++) {
            Due.same("dumps()", Due.craft("K500" + gain + "4w+3-1-0w-0+4+0f-4-9-1").dumps(), 3);
        }
    }

    static void p21_dumps_inMode1() {
        // two dead wheels: the coils rest, and all gains do the same
        Edges.changesNothing("dumps()", 0, Edges::safe, x -> x.dumps());
        Edges.changesNothing("dumps()", 0, Edges::lifeless, x -> x.dumps());
        // all alive, p is -40 and q is 40: from gain 1 on the coils take all they can, 0.625 of each in each tick
        Edges.changesNothing("dumps()", 1, () -> {
            SpinWheels x = after("K20005w-8+8+8f+0+0+8", 5);
            x.kill(0);
            x.kill(1);
            x.mend(0);
            x.mend(1);
            return x;
        }, x -> x.dumps());
    }

    // ---- promise 22: worst

    static void p22_worst_allDeadIsNone() {
        Edges.changesNothing("worst()", NONE, Edges::lifeless, x -> x.worst());
    }

    static void p22_worst_oneAlive() {
        for (int i = 0; i < 4; i++) {
            int alive = i;
            Edges.changesNothing("worst()", i, () -> {
                SpinWheels x = Edges.lifeless();
                x.mend(alive);
                return x;
            }, x -> x.worst());
        }
    }

    static void p22_worst_ofSeveralTheLowest() {
        Edges.changesNothing("worst()", 0, Edges::fresh, x -> x.worst());
        SpinWheels x = new SpinWheels();
        x.kill(0);
        Due.same("worst() of 1, 2 and 3", x.worst(), 1);
        x.kill(1);
        Due.same("worst() of 2 and 3", x.worst(), 2);
    }

    static void p22_worst_the20thTickCounts() {
        // without wheel 1 or 2 a speed grows by 2 in each tick, otherwise by 1 at most
        Edges.changesNothing("worst()", 1, () -> Due.craft("K38005w+2-2+0"), x -> x.worst());
        Edges.changesNothing("worst()", 1, () -> Due.craft("K39005w+2-2+0"), x -> x.worst());
    }

    static void p22_worst_the21stTickDoesNotCount() {
        Edges.changesNothing("worst()", 0, () -> Due.craft("K40005w+2-2+0"), x -> x.worst());
    }

    static void p22_worst_greatestWheel() {
        // all begin at -4; without wheel 3 one falls by 2 in each tick, without wheel 0 one rises by 2
        Edges.changesNothing("worst()", 3, () -> {
            SpinWheels x = after("K38405w+0+0+0", 1);
            x.want(0, -2, -2, 0);
            return x;
        }, x -> x.worst());
    }

    static void p22_worst_inMode1AllIsLost() {
        Edges.changesNothing("worst()", 0, ForecastEdgeTest::spinning, x -> x.worst());
        Edges.changesNothing("worst()", 1, Edges::safe, x -> x.worst());
    }

    static void p22_worst_earlierMissesDoNotCount() {
        SpinWheels x = after(MISSING, 4);
        x.want(0, 0, 0, 0);
        x.kill(0);
        Due.same("worst()", x.worst(), 1);
    }

    // ---- promise 23: judge

    private static void judge(SpinWheels x, int n, long row, int due) {
        Due.same("judge(" + n + ", " + row + ")", x.judge(n, row), due);
    }

    static void p23_judge_n0IsOutside() {
        Edges.refuses("judge", SpinWheels.OUTSIDE, Edges::busy, (x, n) -> x.judge(n, 0L), 0, -1, MIN);
    }

    static void p23_judge_n4IsOutside() {
        Edges.refuses("judge", SpinWheels.OUTSIDE, Edges::busy, (x, n) -> x.judge(n, 4000L), 4, MAX);
    }

    static void p23_judge_rowMinus1IsOutside() {
        Edges.refuses("judge", SpinWheels.OUTSIDE, Edges::busy, (x, n) -> x.judge(n, -1L), 1, 2, 3);
        Edges.refuses("judge", SpinWheels.OUTSIDE, Edges::busy, (x, n) -> x.judge(n, Long.MIN_VALUE), 1, 2, 3);
    }

    static void p23_judge_rowBehindTheGreatestIsOutside() {
        long[] behind = {10000L, 100000000L, 1000000000000L};
        for (int i = 0; i < 3; i++) {
            long row = behind[i];
            Edges.refuses("judge " + row, SpinWheels.OUTSIDE, Edges::busy, (x, n) -> x.judge(n, row), i + 1);
        }
        Edges.refuses("judge", SpinWheels.OUTSIDE, Edges::busy, (x, n) -> x.judge(n, Long.MAX_VALUE), 1, 2, 3);
        // an int would take these for 4000
        Edges.refuses("judge", SpinWheels.OUTSIDE, Edges::busy, (x, n) -> x.judge(n, 4000L + (1L << 32)), 1, 2);
    }

    static void p23_judge_row0() {
        for (int i = 1; i <= 3; i++) {
            int n = i;
            Edges.changesNothing("judge(" + n + ", 0)", 0, Edges::busy, x -> x.judge(n, 0L));
        }
    }

    static void p23_judge_greatestRow() {
        judge(new SpinWheels(), 1, 9999L, 0);
        judge(new SpinWheels(), 2, 99999999L, 0);
        judge(new SpinWheels(), 3, 999999999999L, 0);
        // the greatest ones of which no statement fails: missed is 0
        judge(new SpinWheels(), 1, 7000L, NONE);
        judge(new SpinWheels(), 2, 70007000L, NONE);
        judge(new SpinWheels(), 3, 700070007000L, NONE);
    }

    static void p23_judge_n1() {
        judge(new SpinWheels(), 1, 4000L, NONE);
        judge(new SpinWheels(), 1, 4001L, 0);
    }

    static void p23_judge_theFirstThatFails() {
        SpinWheels x = new SpinWheels();
        judge(x, 3, 400140014001L, 0);
        judge(x, 3, 400040014001L, 1);
        judge(x, 3, 400040004001L, 2);
        judge(x, 3, 400040004000L, NONE);
        judge(x, 2, 40014000L, 0);
        judge(x, 2, 40004001L, 1);
    }

    static void p23_judge_digitsThatAreTooFewFailFirst() {
        judge(new SpinWheels(), 2, 4000L, 0);
        judge(new SpinWheels(), 3, 40004000L, 0);
    }

    static void p23_judge_noTicksFail() {
        judge(new SpinWheels(), 1, 1000L, 0);
    }

    static void p23_judge_oneTick() {
        judge(Edges.growing(99), 2, 10105002L, NONE);
        judge(Edges.growing(99), 2, 70005001L, NONE);
    }

    private static SpinWheels fromBelow(int ticks) {
        SpinWheels x = Edges.growing(99);
        x.want(0, -2, 0, 0);
        x.tick(ticks);
        x.want(0, 2, 0, 0);
        return x;
    }

    static void p23_judge_99Ticks() {
        // wheel 0 comes back to 0 in the 98th or 99th tick
        judge(fromBelow(98), 3, 198050011010L, NONE);
        judge(fromBelow(98), 2, 19905002L, NONE);
        judge(fromBelow(99), 2, 19905001L, NONE);
        judge(fromBelow(99), 2, 19805000L, NONE);
    }

    static void p23_judge_tensAndUnitsOfTheTicks() {
        judge(fromBelow(10), 2, 11005001L, NONE);
        judge(fromBelow(10), 2, 10105000L, NONE);
        judge(fromBelow(10), 2, 11105002L, NONE);
        judge(fromBelow(9), 2, 10905001L, NONE);
    }

    static void p23_judge_ticksHaveNoLastDigit() {
        judge(new SpinWheels(), 1, 1011L, 0);
        judge(new SpinWheels(), 1, 1019L, 0);
    }

    static void p23_judge_deadWheelCannotBeKilled() {
        judge(Edges.busy(), 1, 2200L, 0);
        judge(new SpinWheels(), 2, 20002000L, 1);
        judge(new SpinWheels(), 2, 23002300L, 1);
    }

    static void p23_judge_wheelAliveCannotBeRepaired() {
        judge(Edges.busy(), 1, 3100L, 0);
        judge(Edges.busy(), 1, 3200L, NONE);
        judge(Edges.busy(), 2, 32003200L, 1);
        judge(new SpinWheels(), 1, 3000L, 0);
        judge(new SpinWheels(), 1, 3300L, 0);
    }

    static void p23_judge_wheel4IsNoWheel() {
        for (int i = 4; i < 10; i++) {
            judge(new SpinWheels(), 1, 2000L + 100L * i, 0);
            judge(Edges.lifeless(), 1, 3000L + 100L * i, 0);
            judge(new SpinWheels(), 1, 5001L + 100L * i, 0);
        }
        judge(new SpinWheels(), 3, 230033005301L, NONE);
    }

    static void p23_judge_modeAfterTheSecondDeath() {
        judge(new SpinWheels(), 2, 20004000L, NONE);
        judge(new SpinWheels(), 3, 200021004001L, NONE);
        judge(new SpinWheels(), 3, 200021004000L, 2);
    }

    static void p23_judge_modeIsNeverAbove1() {
        for (int v = 2; v < 10; v++) {
            judge(new SpinWheels(), 1, 4000L + v, 0);
            judge(Edges.safe(), 1, 4000L + v, 0);
        }
        judge(Edges.safe(), 1, 4001L, NONE);
    }

    static void p23_judge_speedBelow0At0AndAbove0() {
        SpinWheels x = after("K50005w+2-2+0", 1);
        // (0, 1, -1, 0)
        int[] due = {1, 2, 0, 1};
        for (int i = 0; i < 4; i++) {
            for (int v = 0; v < 10; v++) {
                judge(x, 1, 5000L + 100L * i + v, v == due[i] ? NONE : 0);
            }
        }
    }

    static void p23_judge_speedOfADeadWheel() {
        SpinWheels x = after("K50005w+2-2+0", 1);
        for (int i = 0; i < 4; i++) {
            x.kill(i);
        }
        int[] due = {1, 2, 0, 1};
        for (int i = 0; i < 4; i++) {
            judge(x, 1, 5000L + 100L * i + due[i], NONE);
            judge(x, 1, 5000L + 100L * i + (due[i] + 1) % 3, 0);
        }
    }

    static void p23_judge_gain0And9() {
        // with wheel 3 dead at -1 the coils take 0.5625 from wheel 0 with gain 9, and nothing with gain 0
        SpinWheels x = after("K50009w+4+0+0f+0+0+8", 1);
        x.want(0, 0, 0, 0);
        x.kill(3);
        judge(x, 3, 600910205000L, NONE);
        judge(x, 3, 600010205002L, NONE);
        judge(x, 3, 600110205002L, NONE);
        Edges.counts(x, 12, 0);
    }

    private static SpinWheels missed(int n) {
        SpinWheels x = Due.craft("K10005w+9+9+9");
        x.tick(2);
        for (int i = 0; i < n; i++) {
            x.tick(1);
            x.free();
        }
        Due.same("count(6)", x.count(6), n);
        return x;
    }

    static void p23_judge_missed0And99() {
        judge(missed(0), 1, 7000L, NONE);
        judge(missed(0), 1, 7010L, 0);
        judge(missed(0), 1, 7990L, 0);
        judge(missed(99), 1, 7990L, NONE);
        judge(missed(99), 1, 7980L, 0);
        judge(missed(100), 1, 7000L, 0);
    }

    static void p23_judge_tensAndUnitsOfMissed() {
        judge(missed(9), 1, 7090L, NONE);
        judge(missed(10), 1, 7100L, NONE);
        judge(missed(10), 1, 7010L, 0);
        judge(missed(21), 1, 7210L, NONE);
        judge(missed(21), 1, 7120L, 0);
    }

    static void p23_judge_missedCountsTheTicksOfTheRow() {
        SpinWheels x = Due.craft(MISSING);
        judge(x, 2, 10207000L, NONE);
        judge(x, 2, 10307010L, NONE);
        judge(x, 2, 19907030L, NONE);
    }

    static void p23_judge_allFormsOfAStatement() {
        SpinWheels x = new SpinWheels();
        for (int s = 0; s < 10000; s++) {
            if (s % 400 == 0) {
                x = new SpinWheels();
                x.kill(1);
            }
            int a = s / 100 % 10;
            int b = s / 10 % 10;
            int c = s % 10;
            boolean[] good = {false, c == 0 && a + b > 0, a < 4 && a != 1 && b + c == 0, a == 1 && b + c == 0,
                a + b + c == 0, a < 4 && b == 0 && c == 1, a + b == 0, a + b + c == 0, false, false};
            Due.same("judge(1, " + s + ")", x.judge(1, s), good[s / 1000] ? NONE : 0);
        }
    }

    static void p23_judge_changesNothing() {
        Edges.changesNothing("judge(3, 200010506009L)", NONE, Edges::busy, x -> x.judge(3, 200010506009L));
        Edges.changesNothing("judge(3, 320021006000L)", NONE, Edges::busy, x -> x.judge(3, 320021006000L));
        Edges.changesNothing("judge(3, 210010509000L)", 2, Edges::busy, x -> x.judge(3, 210010509000L));
    }
}
