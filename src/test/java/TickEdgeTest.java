/** Edge cases of promise 9 and of the tick as the description tells it. */
public final class TickEdgeTest {
    private static final int MIN = Integer.MIN_VALUE;
    private static final int MAX = Integer.MAX_VALUE;
    /** Without coils: the speeds are (4.75, -4.25, ..), (9.5, -8.5, ..), and from the third tick on all are missed. */
    private static final String MISSING = "K10005w+9+9+9";

    public static void main(String[] args) {
        Edges.run(TickEdgeTest.class, 9, 9);
        Due.end("TickEdgeTest");
    }

    private static SpinWheels after(String text, int ticks) {
        SpinWheels x = Due.craft(text);
        x.tick(ticks);
        return x;
    }

    // ---- n

    static void p09_tick_n0IsOutside() {
        Edges.refuses("tick", SpinWheels.OUTSIDE, Edges::busy, SpinWheels::tick, 0, -1, MIN);
    }

    static void p09_tick_n100IsOutside() {
        Edges.refuses("tick", SpinWheels.OUTSIDE, Edges::safe, SpinWheels::tick, 100, MAX);
    }

    static void p09_tick_n1IsTaken() {
        SpinWheels x = new SpinWheels();
        Due.same("tick(1)", x.tick(1), 0);
        Edges.counts(x, 5, 1, 14, 1);
    }

    static void p09_tick_n99IsTaken() {
        SpinWheels x = new SpinWheels();
        Due.same("tick(99)", x.tick(99), 0);
        Edges.counts(x, 5, 99, 14, 1);
    }

    static void p09_tick_nTicksAreNTimesOne() {
        SpinWheels x = Edges.busy();
        x.tick(99);
        SpinWheels y = Edges.busy();
        for (int i = 0; i < 99; i++) {
            y.tick(1);
        }
        for (int i = 3; i < 10; i++) {
            Due.same("count(" + i + ")", x.count(i), y.count(i));
        }
        for (int i = 0; i < 4; i++) {
            Due.same("wheel(" + i + ", 0)", x.wheel(i, 0), y.wheel(i, 0));
        }
    }

    static void p09_tick_answersTheModeThen() {
        SpinWheels x = Due.craft(MISSING);
        Due.same("tick(4)", x.tick(4), 0);
        Due.same("tick(1)", x.tick(1), 1);
        Due.same("tick(1) in mode 1", x.tick(1), 1);
        Due.same("tick(5)", Due.craft(MISSING).tick(5), 1);
    }

    // ---- the rows that are used

    static void p09_tick_commandsBeginAnewAfterTheLast() {
        for (int rows = 1; rows <= 6; rows++) {
            StringBuilder text = new StringBuilder("K99005");
            for (int i = 1; i <= rows; i++) {
                text.append("w+").append(i).append("-0+0");
            }
            SpinWheels x = Due.craft(text.toString());
            int p = 0;
            for (int t = 0; t < 20; t++) {
                x.tick(1);
                p += t % rows + 1;
                Due.sameFloat(rows + " commands, tick " + t + ": momentum(0)", x.momentum(0), p);
            }
        }
    }

    static void p09_tick_fieldsBeginAnewAfterTheLast() {
        for (int rows = 1; rows <= 6; rows++) {
            // only the last field takes anything, and only in its ticks
            SpinWheels x = Due.craft("K99015w+4+0+0" + "f+0+0+0".repeat(rows - 1) + "f+0+0+8");
            x.set(2, 0);
            x.tick(1);
            x.want(0, 0, 0, 0);
            x.set(2, 1);
            for (int t = 1; t < 20; t++) {
                int before = x.momentum(0);
                x.tick(1);
                boolean taken = x.momentum(0) != before;
                Due.isTrue(rows + " fields, tick " + t + ": " + taken, taken == (t % rows == rows - 1));
            }
        }
    }

    static void p09_tick_commandsAndFieldsCountEachTheirOwn() {
        SpinWheels x = Due.craft("K50015w+4+0+0w+0+0+0f+0+0+0f+0+0+0f+0+0+8");
        float[] p = {4f, 4f, 7.5f, 7.5f, 11.5f};
        for (int t = 0; t < p.length; t++) {
            x.tick(1);
            Due.sameFloat("tick " + t + ": momentum(0)", x.momentum(0), p[t]);
        }
    }

    static void p09_tick_withoutCommandsItIs0() {
        SpinWheels x = after("K50005f+1+2+3", 5);
        Edges.speeds(x, 0f, 0f, 0f, 0f);
        x = after("K50105", 5);
        Edges.speeds(x, -1f, -1f, -1f, -1f);
    }

    static void p09_tick_withoutFieldsNothingIsTaken() {
        Edges.speeds(after("K50095w+4+0+0", 3), 3f, 3f, -3f, -3f);
    }

    // ---- the axes

    static void p09_tick_noDeadWheel() {
        Edges.speeds(after("K50005w+1+2+4", 1), 1.75f, -1.25f, -0.75f, 0.25f);
    }

    private static void withoutWheel(int dead, float... due) {
        SpinWheels x = Due.craft("K50005w+1+2+4");
        x.kill(dead);
        x.tick(1);
        Edges.speeds(x, due);
    }

    static void p09_tick_wheel0Dead() {
        withoutWheel(0, 0f, -3f, -2.5f, -1.5f);
    }

    static void p09_tick_wheel1Dead() {
        withoutWheel(1, 3f, 0f, 0.5f, 1.5f);
    }

    static void p09_tick_wheel2Dead() {
        withoutWheel(2, 2.5f, -0.5f, 0f, 1f);
    }

    static void p09_tick_wheel3Dead() {
        withoutWheel(3, 1.5f, -1.5f, -1f, 0f);
    }

    static void p09_tick_aMendedWheelBringsTheAxesBack() {
        SpinWheels x = Due.craft("K50005w+1+2+4");
        x.kill(3);
        x.mend(3);
        x.tick(1);
        Edges.speeds(x, 1.75f, -1.25f, -0.75f, 0.25f);
    }

    // ---- the step

    private static void stepOf(SpinWheels x, int step, int near, float height) {
        Due.same("plan(0)", x.plan(0), step);
        Due.same("plan(1)", x.plan(1), near);
        Due.sameFloat("plan(2)", x.plan(2), height);
        float before = Float.intBitsToFloat(x.next(0));
        x.tick(1);
        Due.sameFloat("wheel(0, 0)", x.wheel(0, 0), before);
    }

    static void p09_tick_speedOfJustTheBandIsNotNear() {
        stepOf(Due.craft("K50105"), -1, 0, 1f);
        stepOf(after("K50105", 1), 0, 0, 1f);
    }

    static void p09_tick_speedJustBelowTheBandIsNear() {
        // (0.75, 0.75, -0.75, -0.75): a step of 1 leaves two of them at 0.25
        stepOf(Due.craft("K50105w+3+0+0"), -2, 0, 2.75f);
    }

    static void p09_tick_band0LeavesNothingNear() {
        stepOf(Due.craft("K50005"), 0, 0, 0f);
    }

    static void p09_tick_smallestNearComesFirst() {
        // (2.75, -6.25, -6.25, -6.25) has one near; the flatter (4.75, -4.25, -4.25, -4.25) has four
        stepOf(Due.craft("K50605w+9+9+9"), -4, 1, 6.25f);
    }

    static void p09_tick_smallestHeightComesSecond() {
        stepOf(Due.craft("K50005w+9+9+9"), -2, 0, 4.75f);
    }

    static void p09_tick_ofTwoAlike0IsBeforeMinus1() {
        stepOf(Due.craft("K50005w+2+2+2"), 0, 0, 1.5f);
    }

    static void p09_tick_ofTwoAlikeMinus1IsBefore1() {
        stepOf(Due.craft("K50105"), -1, 0, 1f);
    }

    /** All speeds are 0.5 or -0.5, made with three wheels: the sum of four alive grows by whole numbers alone. */
    private static SpinWheels halves(int sign, int band) {
        SpinWheels x = Due.craft("K50005w+0+0+0");
        x.want(0, sign, 0, 0);
        x.kill(3);
        x.tick(1);
        x.mend(3);
        x.want(0, -sign, 0, 0);
        x.kill(0);
        x.tick(1);
        x.mend(0);
        x.want(0, 0, 0, 0);
        x.set(1, band);
        Edges.speeds(x, sign / 2f, sign / 2f, sign / 2f, sign / 2f);
        return x;
    }

    static void p09_tick_ofTwoAlike1IsBefore2() {
        stepOf(Due.craft("K50005w-6-6-6"), 1, 0, 3.5f);
    }

    static void p09_tick_ofTwoAlike1IsBeforeMinus2() {
        stepOf(halves(1, 1), 1, 0, 1.5f);
    }

    static void p09_tick_ofTwoAlike2IsBeforeMinus3() {
        stepOf(halves(1, 2), 2, 0, 2.5f);
    }

    static void p09_tick_ofTwoAlike3IsBeforeMinus4() {
        stepOf(halves(1, 3), 3, 0, 3.5f);
    }

    static void p09_tick_ofTwoAlikeMinus1IsBefore2() {
        stepOf(halves(-1, 1), -1, 0, 1.5f);
    }

    static void p09_tick_ofTwoAlikeMinus3IsBefore4() {
        stepOf(halves(-1, 3), -3, 0, 3.5f);
    }

    static void p09_tick_ofTwoAlikeMinus2IsBefore2() {
        stepOf(Due.craft("K50205"), -2, 0, 2f);
    }

    static void p09_tick_ofTwoAlikeMinus3IsBefore3() {
        stepOf(Due.craft("K50305"), -3, 0, 3f);
    }

    static void p09_tick_ofTwoAlikeMinus4IsBefore4() {
        stepOf(Due.craft("K50405"), -4, 0, 4f);
    }

    static void p09_tick_noStepIsBeyond4() {
        stepOf(Due.craft("K50505"), 0, 4, 0f);
    }

    static void p09_tick_step1() {
        SpinWheels x = after("K50105", 1);
        x.set(1, 0);
        stepOf(x, 1, 0, 0f);
    }

    static void p09_tick_step2() {
        stepOf(Due.craft("K50005w-9-9-9"), 2, 0, 4.75f);
    }

    static void p09_tick_step3() {
        SpinWheels x = after("K50305", 1);
        x.set(1, 0);
        stepOf(x, 3, 0, 0f);
    }

    static void p09_tick_step4() {
        SpinWheels x = after("K50405", 1);
        x.set(1, 0);
        stepOf(x, 4, 0, 0f);
    }

    static void p09_tick_stepIs0IfAWheelIsDead() {
        SpinWheels x = Due.craft("K50105");
        x.kill(1);
        stepOf(x, 0, 3, 0f);
        Edges.speeds(x, 0f, 0f, 0f, 0f);
    }

    static void p09_tick_deadWheelIsNotNearAndNotHigh() {
        SpinWheels x = after("K50005w+4+0+0", 9);
        x.kill(3);
        x.want(0, -3, 1, -1);
        // the three that are alive come from 9, 9 and -9 to 8, 8 and -8, and the dead one stays at -9
        stepOf(x, 0, 0, 8f);
        x = Due.craft("K50905");
        x.kill(3);
        Due.same("plan(1) of three", x.plan(1), 3);
    }

    // ---- missed ticks

    static void p09_tick_heightOfJustTheTopIsNotMissed() {
        SpinWheels x = Edges.growing(10);
        x.tick(10);
        Edges.speeds(x, 10f, 10f, 0f, 0f);
        Edges.counts(x, 6, 0, 9, 0);
    }

    static void p09_tick_heightAboveTheTopIsMissed() {
        SpinWheels x = Edges.growing(10);
        x.tick(10);
        x.want(0, 1, 0, 0);
        Due.sameFloat("plan(2)", x.plan(2), 10.5f);
        x.tick(1);
        Edges.counts(x, 6, 1, 9, 1);
    }

    static void p09_tick_heightBelow0CountsAsMuch() {
        SpinWheels x = Edges.growing(10);
        x.want(0, -2, 0, 0);
        x.tick(10);
        Edges.speeds(x, -10f, -10f, 0f, 0f);
        Edges.counts(x, 6, 0);
        x.tick(1);
        Edges.counts(x, 6, 1);
    }

    static void p09_tick_missedOneKeepsTheSpeeds() {
        SpinWheels x = after(MISSING, 2);
        Edges.speeds(x, 9.5f, -8.5f, -8.5f, -8.5f);
        x.tick(1);
        Edges.speeds(x, 9.5f, -8.5f, -8.5f, -8.5f);
        Edges.counts(x, 5, 3, 6, 1);
    }

    static void p09_tick_missedOneCrossesNothing() {
        SpinWheels x = Due.craft("K10005w+4+0+0");
        x.kill(3);
        x.tick(1);
        x.want(0, 0, 4, 0);
        x.tick(4);
        Edges.speeds(x, 10f, 2f, 8f, 0f);
        x.want(0, 0, 1, 9);
        Due.sameFloat("next(1)", x.next(1), -2.5f);
        x.tick(1);
        Edges.counts(x, 6, 1, 7, 0);
    }

    static void p09_tick_secondMissKeepsMode0() {
        Edges.counts(after(MISSING, 4), 4, 0, 6, 2, 9, 2);
    }

    static void p09_tick_thirdMissChangesTheMode() {
        SpinWheels x = after(MISSING, 5);
        Edges.counts(x, 4, 1, 6, 3, 8, 0, 9, 0);
        Due.same("momentum(6)", x.momentum(6), 0);
    }

    static void p09_tick_anotherTickEndsTheRun() {
        SpinWheels x = after(MISSING, 4);
        x.want(0, 0, 0, 0);
        x.tick(1);
        Edges.counts(x, 4, 0, 6, 2, 9, 0);
        x.want(0, 9, 9, 9);
        x.tick(2);
        Edges.counts(x, 4, 0, 6, 4, 9, 2);
        x.tick(1);
        Edges.counts(x, 4, 1, 6, 5, 9, 0);
    }

    static void p09_tick_runBeginsAnewAfterFree() {
        SpinWheels x = after(MISSING, 5);
        x.free();
        x.tick(2);
        Edges.counts(x, 4, 0, 6, 5, 9, 2);
        x.tick(1);
        Edges.counts(x, 4, 1, 6, 6, 9, 0);
    }

    // ---- crossings

    /** Two ticks with these commands along x; crossings in the second one. */
    private static void crosses(String first, String second, int due) {
        SpinWheels x = after("K50005w" + first + "+0+0w" + second + "+0+0", 1);
        Due.same("count(7) before", x.count(7), 0);
        x.tick(1);
        Due.same("count(7) after " + first + " and " + second, x.count(7), due);
    }

    static void p09_tick_from0CrossesNothing() {
        crosses("+0", "+4", 0);
        crosses("+0", "-4", 0);
    }

    static void p09_tick_to0CrossesNothing() {
        crosses("+4", "-4", 0);
        crosses("-4", "+4", 0);
    }

    static void p09_tick_bothWaysAreCrossings() {
        crosses("+4", "-8", 4);
        SpinWheels x = Due.craft("K50005w-2+0+0w+4+0+0w-4+0+0");
        x.kill(3);
        x.tick(2);
        Due.same("from below to above", x.count(7), 2);
        x.tick(1);
        Due.same("from above to below", x.count(7), 4);
    }

    static void p09_tick_sameSideCrossesNothing() {
        crosses("+8", "-4", 0);
        crosses("+4", "+4", 0);
    }

    static void p09_tick_deadWheelCrossesNothing() {
        SpinWheels x = after("K50005w+4+0+0w-8+0+0", 1);
        x.kill(3);
        x.tick(1);
        Edges.speeds(x, -3f, -3f, -1f, -1f);
        Edges.counts(x, 7, 2);
    }

    static void p09_tick_coilsCrossNothing() {
        // without wheel 3 the coils take 0.5625 from wheel 0 in each tick: 1, 0.4375, -0.125
        SpinWheels x = after("K50005w+4+0+0f+0+0+8", 1);
        x.want(0, 0, 0, 0);
        x.set(2, 9);
        x.set(3, 9);
        x.kill(3);
        x.tick(1);
        Due.sameFloat("wheel(0, 0)", x.wheel(0, 0), 0.4375f);
        x.tick(1);
        Due.sameFloat("wheel(0, 0)", x.wheel(0, 0), -0.125f);
        x.tick(1);
        Edges.counts(x, 7, 0);
    }

    // ---- mode 1

    static void p09_tick_safeOneSpinsUp() {
        SpinWheels x = after(MISSING, 5);
        float[] due = {0.5f, 0.875f, 1.15625f};
        for (int i = 0; i < due.length; i++) {
            Due.same("tick(1)", x.tick(1), 1);
            Due.sameFloat("momentum(6)", x.momentum(6), due[i]);
            Edges.counts(x, 6, 3, 8, i + 1);
        }
    }

    static void p09_tick_spinEndsAtWhatTheFormulaGives() {
        SpinWheels x = after(MISSING, 5);
        float spin = 0f;
        for (int i = 0; i < 90; i++) {
            x.tick(1);
            spin = spin + (2f - spin) * 0.25f;
            Due.sameFloat("momentum(6)", x.momentum(6), spin);
        }
    }

    static void p09_tick_safeCommandsDoNotMatter() {
        SpinWheels x = after(MISSING, 5);
        x.want(0, 9, 0, 0);
        x.tick(9);
        Edges.speeds(x, 9.5f, -8.5f, -8.5f, -8.5f);
        Edges.counts(x, 6, 3, 7, 0);
    }

    static void p09_tick_safeRunDoesNotMatter() {
        SpinWheels x = after(MISSING, 4);
        x.kill(0);
        x.kill(1);
        x.tick(5);
        Edges.counts(x, 4, 1, 6, 2, 8, 5, 9, 2);
    }

    // ---- the coils

    static void p09_tick_coilsWorkInAMissedTick() {
        SpinWheels x = Due.craft("K10005w+2+0+0f+0+0+8");
        x.kill(3);
        x.tick(10);
        x.set(2, 1);
        x.tick(1);
        // v is 10, limited to 5: P = -0.625
        Edges.speeds(x, 9.6875f, 9.6875f, 0f, 0f);
        Edges.counts(x, 6, 1);
    }

    static void p09_tick_coilsWorkInMode1() {
        SpinWheels x = after("K50005w+4+0+0f+0+0+8", 1);
        x.kill(0);
        x.kill(1);
        x.mend(0);
        x.mend(1);
        x.set(2, 1);
        Due.same("tick(1)", x.tick(1), 1);
        Edges.speeds(x, 0.9375f, 0.9375f, -0.9375f, -0.9375f);
    }

    static void p09_tick_coilsWorkWithOneDeadWheel() {
        SpinWheels x = after("K50005w+4+0+0f+0+0+8", 1);
        x.kill(3);
        x.want(0, 0, 0, 0);
        x.set(2, 1);
        x.tick(1);
        // the dead wheel counts in p = 4, so v = 2 and P = -0.25; it keeps its speed
        Edges.speeds(x, 0.875f, 0.875f, -1f, -1f);
    }

    static void p09_tick_coilsRestWithTwoDeadWheels() {
        SpinWheels x = after("K50005w+4+0+0f+0+0+8", 1);
        x.kill(3);
        x.kill(2);
        x.set(2, 1);
        x.tick(3);
        Edges.speeds(x, 1f, 1f, -1f, -1f);
        x.kill(1);
        x.kill(0);
        x.tick(3);
        Edges.speeds(x, 1f, 1f, -1f, -1f);
        Edges.counts(x, 5, 7);
    }

    static void p09_tick_gain0TakesNothing() {
        Edges.speeds(after("K50009w+4+0+0f+9+9+9", 1), 1f, 1f, -1f, -1f);
    }

    /** The speed of wheel 0 after a tick in which the command gives it 1, or -1. */
    private static void taken(String text, float due) {
        Due.sameFloat("wheel(0, 0) of " + text, after(text, 1).wheel(0, 0), due);
    }

    static void p09_tick_uIsLimited() {
        // q = 4 and the field along z: u = -2, Q = u / 8
        taken("K50013w+0+4+0f+0+0+8", 1f - 0.0625f);
        taken("K50012w+0+4+0f+0+0+8", 1f - 0.0625f);
        taken("K50011w+0+4+0f+0+0+8", 1f - 0.03125f);
        taken("K50013w+0-4+0f+0+0+8", -1f + 0.0625f);
        taken("K50012w+0-4+0f+0+0+8", -1f + 0.0625f);
        taken("K50011w+0-4+0f+0+0+8", -1f + 0.03125f);
    }

    static void p09_tick_vIsLimited() {
        // p = 4 and the field along z: v = 2, P = -v / 8
        taken("K50013w+4+0+0f+0+0+8", 1f - 0.0625f);
        taken("K50012w+4+0+0f+0+0+8", 1f - 0.0625f);
        taken("K50011w+4+0+0f+0+0+8", 1f - 0.03125f);
        taken("K50013w-4+0+0f+0+0+8", -1f + 0.0625f);
        taken("K50012w-4+0+0f+0+0+8", -1f + 0.0625f);
        taken("K50011w-4+0+0f+0+0+8", -1f + 0.03125f);
    }

    static void p09_tick_wIsLimited() {
        // q = 4 and the field along x: w = 2, Q = -w / 8
        taken("K50013w+0+4+0f+8+0+0", 1f - 0.0625f);
        taken("K50012w+0+4+0f+8+0+0", 1f - 0.0625f);
        taken("K50011w+0+4+0f+8+0+0", 1f - 0.03125f);
        taken("K50013w+0-4+0f+8+0+0", -1f + 0.0625f);
        taken("K50012w+0-4+0f+8+0+0", -1f + 0.0625f);
        taken("K50011w+0-4+0f+8+0+0", -1f + 0.03125f);
    }

    static void p09_tick_greatestGainFieldAndCoilLimit() {
        // v = 9 * 9 * 4 / 16 = 20.25, limited to 9: P = -81 / 64
        taken("K50099w+4+0+0f+0+0+9", 1f - 81f / 64f / 4f);
    }

    // ---- the limit of the speeds

    private static SpinWheels pushed(String first, int turn) {
        SpinWheels x = after("K20005w" + first + "+0+0f+0+8+0", 5);
        x.kill(3);
        x.want(0, turn, turn, turn);
        x.tick(5);
        x.want(0, 0, 0, 0);
        x.set(2, 1);
        return x;
    }

    static void p09_tick_coilsPushNoWheelAboveTheTop() {
        SpinWheels x = pushed("-8", 6);
        Edges.speeds(x, 20f, -10f, 10f, 10f);
        x.tick(1);
        // u and w are 5, so P is 0.625 and R is -0.625: wheel 0 would come to 20.3125
        Edges.speeds(x, 20f, -9.375f, 10.3125f, 10f);
    }

    static void p09_tick_coilsPushNoWheelBelowMinusTheTop() {
        SpinWheels x = pushed("+8", -6);
        Edges.speeds(x, -20f, 10f, -10f, -10f);
        x.tick(1);
        Edges.speeds(x, -20f, 9.375f, -10.3125f, -10f);
    }

    static void p09_tick_smallerTopLimitsTheSpeedsAlive() {
        SpinWheels x = after("K50005w+9+9+9", 3);
        x.set(0, 10);
        x.kill(1);
        x.tick(1);
        Edges.speeds(x, 10f, -13.75f, -10f, -10f);
        Edges.counts(x, 6, 1);
    }

    static void p09_tick_smallerTopLimitsNothingWithTwoDeadWheels() {
        SpinWheels x = after("K50005w+9+9+9", 3);
        x.set(0, 10);
        x.kill(1);
        x.kill(2);
        x.tick(4);
        Edges.speeds(x, 13.25f, -13.75f, -13.75f, -13.75f);
    }

    static void p09_tick_speedOfJustTheTopStays() {
        SpinWheels x = Edges.growing(10);
        x.tick(10);
        x.want(0, 0, 0, 0);
        x.tick(3);
        Edges.speeds(x, 10f, 10f, 0f, 0f);
    }

    // ---- the clock

    static void p09_tick_clockGrowsInEachTick() {
        SpinWheels x = after(MISSING, 2);
        Edges.counts(x, 5, 2);
        x.tick(1);
        Edges.counts(x, 5, 3, 6, 1);
        x.tick(3);
        Edges.counts(x, 5, 6, 8, 1);
        x.kill(0);
        x.kill(1);
        x.tick(99);
        Edges.counts(x, 5, 105, 8, 100);
    }
}
