/** Edge cases of promises 10 to 15: the acts but tick(), and undo(). */
public final class ActEdgeTest {
    private static final int MIN = Integer.MIN_VALUE;
    private static final int MAX = Integer.MAX_VALUE;
    /** Without coils: the speeds are (4.75, -4.25, ..), (9.5, -8.5, ..), and from the third tick on all are missed. */
    private static final String MISSING = "K10005w+9+9+9";

    public static void main(String[] args) {
        Edges.run(ActEdgeTest.class, 10, 15);
        Due.end("ActEdgeTest");
    }

    private static SpinWheels after(String text, int ticks) {
        SpinWheels x = Due.craft(text);
        x.tick(ticks);
        return x;
    }

    // ---- promise 10: kill

    static void p10_kill_wheelMinus1IsUnknown() {
        Edges.refuses("kill", SpinWheels.UNKNOWN, Edges::busy, SpinWheels::kill, -1, MIN);
    }

    static void p10_kill_wheel4IsUnknown() {
        Edges.refuses("kill", SpinWheels.UNKNOWN, Edges::lifeless, SpinWheels::kill, 4, MAX);
    }

    static void p10_kill_deadWheelIsState() {
        Edges.refuses("kill", SpinWheels.STATE, Edges::busy, SpinWheels::kill, 2);
        Edges.refuses("kill", SpinWheels.STATE, Edges::lifeless, SpinWheels::kill, 0, 1, 2, 3);
    }

    static void p10_kill_leastAndGreatestWheel() {
        SpinWheels x = new SpinWheels();
        Due.same("kill(0)", x.kill(0), 1);
        Edges.counts(x, 3, 1);
        x = new SpinWheels();
        Due.same("kill(3)", x.kill(3), 1);
        Edges.counts(x, 3, 8);
    }

    static void p10_kill_firstKeepsMode0() {
        for (int i = 0; i < 4; i++) {
            SpinWheels x = new SpinWheels();
            x.kill(i);
            Edges.counts(x, 4, 0, 14, 1);
        }
    }

    static void p10_kill_secondChangesTheMode() {
        for (int i = 0; i < 12; i++) {
            SpinWheels x = new SpinWheels();
            x.kill(i / 3);
            Due.same("kill() of a second", x.kill((i / 3 + i % 3 + 1) % 4), 2);
            Edges.counts(x, 4, 1, 14, 2);
        }
    }

    static void p10_kill_thirdAndFourthKeepMode1() {
        SpinWheels x = new SpinWheels();
        x.kill(3);
        x.kill(2);
        Due.same("kill(1)", x.kill(1), 3);
        Edges.counts(x, 3, 14, 4, 1);
        Due.same("kill(0)", x.kill(0), 4);
        Edges.counts(x, 3, 15, 4, 1);
    }

    static void p10_kill_firstInMode1KeepsIt() {
        SpinWheels x = after(MISSING, 5);
        Due.same("kill(1)", x.kill(1), 1);
        Edges.counts(x, 4, 1);
    }

    static void p10_kill_speedsSpinRunAndCountersStay() {
        SpinWheels x = after(MISSING, 4);
        x.kill(0);
        x.kill(1);
        Edges.speeds(x, 9.5f, -8.5f, -8.5f, -8.5f);
        Edges.counts(x, 5, 4, 6, 2, 7, 0, 8, 0, 9, 2);
        Due.same("momentum(6)", x.momentum(6), 0);
        x.tick(1);
        x.kill(2);
        Due.sameFloat("momentum(6)", x.momentum(6), 0.5f);
        Edges.counts(x, 8, 1, 9, 2);
    }

    static void p10_kill_mendedWheelCanBeKilledAgain() {
        SpinWheels x = new SpinWheels();
        x.kill(1);
        x.mend(1);
        Due.same("kill(1)", x.kill(1), 1);
        Edges.counts(x, 3, 2, 4, 0);
    }

    // ---- promise 11: mend

    static void p11_mend_wheelMinus1IsUnknown() {
        Edges.refuses("mend", SpinWheels.UNKNOWN, Edges::lifeless, SpinWheels::mend, -1, MIN);
    }

    static void p11_mend_wheel4IsUnknown() {
        Edges.refuses("mend", SpinWheels.UNKNOWN, Edges::busy, SpinWheels::mend, 4, MAX);
    }

    static void p11_mend_wheelAliveIsState() {
        Edges.refuses("mend", SpinWheels.STATE, Edges::busy, SpinWheels::mend, 0, 1, 3);
        Edges.refuses("mend", SpinWheels.STATE, Edges::fresh, SpinWheels::mend, 0, 3);
    }

    static void p11_mend_leastAndGreatestWheel() {
        SpinWheels x = Edges.lifeless();
        Due.same("mend(0)", x.mend(0), 3);
        Edges.counts(x, 3, 14);
        Due.same("mend(3)", x.mend(3), 2);
        Edges.counts(x, 3, 6);
    }

    static void p11_mend_lastDeadWheel() {
        SpinWheels x = Edges.busy();
        Due.same("mend(2)", x.mend(2), 0);
        Edges.counts(x, 3, 0, 4, 0);
        Due.same("mend(2) again", x.mend(2), SpinWheels.STATE);
    }

    static void p11_mend_modeStays() {
        SpinWheels x = Edges.lifeless();
        for (int i = 0; i < 4; i++) {
            Due.same("mend(" + i + ")", x.mend(i), 3 - i);
            Edges.counts(x, 4, 1);
        }
        Due.same("tick(1)", x.tick(1), 1);
    }

    static void p11_mend_speedsSpinAndCountersStay() {
        SpinWheels x = Edges.safe();
        int[] before = Due.seen(x);
        x.mend(0);
        int[] after = Due.seen(x);
        for (int i = 0; i < before.length; i++) {
            // the set of the dead wheels, and wheel 0's own death
            if (i != 3 && i != 15) {
                Due.same("number " + i, after[i], before[i]);
            }
        }
        Edges.counts(x, 3, 4);
    }

    // ---- promise 12: free

    static void p12_free_inMode0IsState() {
        Edges.changesNothing("free()", SpinWheels.STATE, Edges::fresh, x -> x.free());
        Edges.changesNothing("free()", SpinWheels.STATE, Edges::busy, x -> x.free());
    }

    static void p12_free_withTwoDeadWheelsIsState() {
        Edges.changesNothing("free()", SpinWheels.STATE, Edges::safe, x -> x.free());
    }

    static void p12_free_withThreeOrFourDeadWheelsIsState() {
        Edges.changesNothing("free()", SpinWheels.STATE, Edges::lifeless, x -> x.free());
        Edges.changesNothing("free()", SpinWheels.STATE, () -> {
            SpinWheels x = Edges.safe();
            x.kill(3);
            return x;
        }, x -> x.free());
    }

    static void p12_free_withOneDeadWheel() {
        SpinWheels x = Edges.safe();
        x.mend(2);
        Due.same("free()", x.free(), 1);
        Edges.counts(x, 3, 1, 4, 0);
    }

    static void p12_free_withoutDeadWheels() {
        SpinWheels x = after(MISSING, 5);
        Due.same("free()", x.free(), 0);
        Edges.counts(x, 4, 0);
        Due.same("free() again", x.free(), SpinWheels.STATE);
    }

    static void p12_free_spinAndRunBecome0() {
        SpinWheels x = after(MISSING, 4);
        x.kill(0);
        x.kill(1);
        x.tick(1);
        x.mend(1);
        Due.sameFloat("momentum(6) before", x.momentum(6), 0.5f);
        Edges.counts(x, 9, 2);
        Due.same("free()", x.free(), 1);
        Due.same("momentum(6)", x.momentum(6), 0);
        Edges.counts(x, 9, 0);
    }

    static void p12_free_speedsAndCountersStay() {
        SpinWheels x = after(MISSING, 7);
        x.free();
        Edges.speeds(x, 9.5f, -8.5f, -8.5f, -8.5f);
        Edges.counts(x, 5, 7, 6, 3, 7, 0, 8, 2, 14, 2);
    }

    // ---- promise 13: set

    static void p13_set_whatMinus1IsOutside() {
        Edges.refuses("set", SpinWheels.OUTSIDE, Edges::busy, (x, what) -> x.set(what, 9), -1, MIN);
        Edges.refuses("set", SpinWheels.OUTSIDE, Edges::busy, (x, what) -> x.set(what, 50), -1);
    }

    static void p13_set_what4IsOutside() {
        Edges.refuses("set", SpinWheels.OUTSIDE, Edges::busy, (x, what) -> x.set(what, 9), 4, MAX);
    }

    static void p13_set_top9IsOutside() {
        Edges.refuses("set", SpinWheels.OUTSIDE, Edges::busy, (x, v) -> x.set(0, v), 9, 0, -10, MIN);
    }

    static void p13_set_top100IsOutside() {
        Edges.refuses("set", SpinWheels.OUTSIDE, Edges::busy, (x, v) -> x.set(0, v), 100, MAX);
    }

    static void p13_set_band10IsOutside() {
        Edges.refuses("set", SpinWheels.OUTSIDE, Edges::busy, (x, v) -> x.set(1, v), 10, 50, MAX);
    }

    static void p13_set_bandMinus1IsOutside() {
        Edges.refuses("set", SpinWheels.OUTSIDE, Edges::busy, (x, v) -> x.set(1, v), -1, MIN);
    }

    static void p13_set_gain10IsOutside() {
        Edges.refuses("set", SpinWheels.OUTSIDE, Edges::busy, (x, v) -> x.set(2, v), 10, MAX);
    }

    static void p13_set_gainMinus1IsOutside() {
        Edges.refuses("set", SpinWheels.OUTSIDE, Edges::busy, (x, v) -> x.set(2, v), -1, MIN);
    }

    static void p13_set_coilLimit0IsOutside() {
        Edges.refuses("set", SpinWheels.OUTSIDE, Edges::busy, (x, v) -> x.set(3, v), 0, -1, MIN);
    }

    static void p13_set_coilLimit10IsOutside() {
        Edges.refuses("set", SpinWheels.OUTSIDE, Edges::busy, (x, v) -> x.set(3, v), 10, MAX);
    }

    private static void bounds(int what, int first, int least, int most) {
        SpinWheels x = new SpinWheels();
        Due.same("set(" + what + ", " + least + ")", x.set(what, least), first);
        Edges.counts(x, 10 + what, least, 14, 1);
        Due.same("set(" + what + ", " + most + ")", x.set(what, most), least);
        Edges.counts(x, 10 + what, most, 14, 2);
        x.undo();
        x.undo();
        Edges.sameCraft("undone", x, new SpinWheels());
    }

    static void p13_set_topTakes10And99() {
        bounds(0, 50, 10, 99);
    }

    static void p13_set_bandTakes0And9() {
        bounds(1, 1, 0, 9);
    }

    static void p13_set_gainTakes0And9() {
        bounds(2, 1, 0, 9);
    }

    static void p13_set_coilLimitTakes1And9() {
        bounds(3, 5, 1, 9);
    }

    static void p13_set_sameValueIsAnActToo() {
        SpinWheels x = new SpinWheels();
        Due.same("set(0, 50)", x.set(0, 50), 50);
        Edges.counts(x, 14, 1);
        Due.same("undo()", x.undo(), 0);
    }

    static void p13_set_answer0IsNoError() {
        SpinWheels x = Due.craft("K50005");
        Due.same("set(1, 3)", x.set(1, 3), 0);
        Edges.counts(x, 11, 3, 14, 1);
    }

    static void p13_set_speedsAboveASmallerTopStay() {
        SpinWheels x = after("K50005w+9+9+9", 3);
        x.set(0, 10);
        Edges.speeds(x, 13.25f, -13.75f, -13.75f, -13.75f);
        x.tick(1);
        Edges.speeds(x, 10f, -10f, -10f, -10f);
    }

    // ---- promise 14: want

    private static SpinWheels sixWants() {
        SpinWheels x = Due.craft("K50015w+1+1+1w-2+2+2w+3+3+3w+4+4+4w+5+5+5w+6-6+6");
        x.tick(2);
        return x;
    }

    static void p14_want_rowMinus1IsUnknown() {
        Edges.refuses("want", SpinWheels.UNKNOWN, Edges::busy, (x, row) -> x.want(row, 0, 0, 0), -1, MIN);
    }

    static void p14_want_rowBehindTheLastIsUnknown() {
        Edges.refuses("want", SpinWheels.UNKNOWN, Edges::busy, (x, row) -> x.want(row, 0, 0, 0), 2, 5, 6, MAX);
        Edges.refuses("want", SpinWheels.UNKNOWN, ActEdgeTest::sixWants, (x, row) -> x.want(row, 0, 0, 0), 6);
    }

    static void p14_want_withoutCommandsItIsUnknown() {
        Edges.refuses("want", SpinWheels.UNKNOWN, Edges::fresh, (x, row) -> x.want(row, 0, 0, 0), -1, 0, 1);
        Edges.refuses("want", SpinWheels.UNKNOWN, () -> Due.craft("K50115f+1+1+1f+2+2+2"),
            (x, row) -> x.want(row, 0, 0, 0), 0);
    }

    static void p14_want_xOutside() {
        Edges.refuses("want", SpinWheels.OUTSIDE, Edges::busy, (x, v) -> x.want(0, v, 1, 1), -10, 10, MIN, MAX);
    }

    static void p14_want_yOutside() {
        Edges.refuses("want", SpinWheels.OUTSIDE, Edges::busy, (x, v) -> x.want(0, 1, v, 1), -10, 10, MIN, MAX);
    }

    static void p14_want_zOutside() {
        Edges.refuses("want", SpinWheels.OUTSIDE, Edges::busy, (x, v) -> x.want(1, 1, 1, v), -10, 10, MIN, MAX);
    }

    static void p14_want_unknownComesBeforeOutside() {
        Edges.refuses("want", SpinWheels.UNKNOWN, Edges::busy, (x, v) -> x.want(2, v, v, v), -10, 10);
        Edges.refuses("want", SpinWheels.UNKNOWN, Edges::busy, (x, v) -> x.want(-1, v, v, v), -10, 10);
        Edges.refuses("want", SpinWheels.UNKNOWN, Edges::fresh, (x, v) -> x.want(0, v, v, v), -10, 10);
    }

    static void p14_want_takesMinus9And9() {
        for (int k = 0; k < 3; k++) {
            for (int v = -9; v <= 9; v += 18) {
                SpinWheels x = Due.craft("K50115w+1+2+3");
                Due.same("want()", x.want(0, k == 0 ? v : 4, k == 1 ? v : 5, k == 2 ? v : 6), 1);
                for (int i = 0; i < 3; i++) {
                    Due.same("told(true, 0, " + i + ")", x.told(true, 0, i), i == k ? v : 4 + i);
                }
            }
        }
    }

    static void p14_want_leastAndGreatestRow() {
        SpinWheels x = sixWants();
        Due.same("want(0, ..)", x.want(0, 7, 8, 9), 1);
        Due.same("want(5, ..)", x.want(5, -7, -8, -9), 6);
        int[] due = {7, 8, 9, -2, 2, 2, 3, 3, 3, 4, 4, 4, 5, 5, 5, -7, -8, -9};
        for (int i = 0; i < 18; i++) {
            Due.same("told(true, " + i / 3 + ", " + i % 3 + ")", x.told(true, i / 3, i % 3), due[i]);
        }
    }

    static void p14_want_answerBelow0IsNoError() {
        // the x before may be the number of an error code, or of NONE
        int[] codes = {SpinWheels.UNKNOWN, SpinWheels.OUTSIDE, SpinWheels.STATE, SpinWheels.FULL, SpinWheels.NONE};
        SpinWheels x = Due.craft("K50115w-1+2+3");
        for (int i = 0; i < codes.length; i++) {
            Due.same("want()", x.want(0, i + 1 < codes.length ? codes[i + 1] : 0, i, i), codes[i]);
            Edges.counts(x, 14, i + 1);
            Due.same("told(true, 0, 2)", x.told(true, 0, 2), i);
        }
        Due.same("undo()", x.undo(), 4);
        Due.same("told(true, 0, 0)", x.told(true, 0, 0), SpinWheels.NONE);
    }

    static void p14_want_changesTheFollowingTicks() {
        SpinWheels x = Due.craft("K50005w+4+0+0w+0+0+0");
        x.want(1, 0, 4, 0);
        x.tick(2);
        Due.sameFloat("momentum(0)", x.momentum(0), 4f);
        Due.sameFloat("momentum(1)", x.momentum(1), 4f);
    }

    // ---- promise 15: undo

    static void p15_undo_ofNothingIsState() {
        Edges.changesNothing("undo()", SpinWheels.STATE, Edges::fresh, x -> x.undo());
        Edges.changesNothing("undo()", SpinWheels.STATE, () -> {
            SpinWheels x = Edges.busy();
            x.again(0);
            return x;
        }, x -> x.undo());
    }

    static void p15_undo_ofTheLastOneAnswers0() {
        SpinWheels x = Edges.ticked(1);
        Due.same("undo()", x.undo(), 0);
        Due.same("undo() again", x.undo(), SpinWheels.STATE);
        Edges.sameInAll("undone", x, Edges.ticked(0));
    }

    private static void undoesAll(int acts, int can) {
        SpinWheels x = Edges.ticked(acts);
        Edges.counts(x, 5, acts, 14, can);
        for (int i = can - 1; i >= 0; i--) {
            Due.same("undo()", x.undo(), i);
            Edges.counts(x, 5, acts - can + i, 14, i);
        }
        Due.same("undo() of one more", x.undo(), SpinWheels.STATE);
        Edges.counts(x, 5, acts - can, 14, 0);
    }

    static void p15_undo_of13Acts() {
        undoesAll(13, 13);
    }

    static void p15_undo_of14Acts() {
        undoesAll(14, 14);
    }

    static void p15_undo_the15thActLosesTheFirst() {
        undoesAll(15, 14);
    }

    static void p15_undo_theLatest14OfMany() {
        undoesAll(27, 14);
        undoesAll(28, 14);
        undoesAll(29, 14);
        undoesAll(43, 14);
    }

    static void p15_undo_roomIsFullAgainAfterAllAreUndone() {
        SpinWheels x = Edges.ticked(20);
        while (x.undo() > 0) {
            Edges.counts(x, 6, 0);
        }
        Edges.counts(x, 5, 6);
        for (int i = 1; i <= 15; i++) {
            x.tick(1);
            Edges.counts(x, 14, Math.min(i, 14));
        }
        Due.same("undo()", x.undo(), 13);
        Edges.counts(x, 5, 20);
    }

    static void p15_undo_anActAfterItCountsAnew() {
        SpinWheels x = Edges.ticked(5);
        Due.same("undo()", x.undo(), 4);
        Due.same("undo()", x.undo(), 3);
        x.tick(50);
        Edges.counts(x, 5, 53, 14, 4);
        Due.same("undo() of the new one", x.undo(), 3);
        Edges.counts(x, 5, 3);
        Due.same("undo() of the third", x.undo(), 2);
        Edges.counts(x, 5, 2);
    }

    static void p15_undo_passesOverWhatIsUndone() {
        SpinWheels x = Edges.ticked(20);
        x.undo();
        x.undo();
        x.undo();
        x.tick(30);
        x.tick(40);
        int[] clocks = {47, 17, 16, 15, 14, 13, 12, 11, 10, 9, 8};
        for (int clock : clocks) {
            x.undo();
            Edges.counts(x, 5, clock);
        }
    }

    static void p15_undo_refusedCallsAreNoActs() {
        SpinWheels x = Edges.ticked(3);
        x.tick(0);
        x.kill(4);
        x.mend(0);
        x.free();
        x.set(0, 9);
        x.want(0, 1, 1, 1);
        x.undo();
        Edges.counts(x, 5, 2, 14, 2);
    }

    static void p15_undo_otherCallsAreNoActs() {
        SpinWheels x = Edges.ticked(3);
        x.write('K');
        x.wipe();
        x.craft();
        x.ahead(5, 0);
        x.dumps();
        x.judge(1, 1010L);
        x.see(0, 0, 0, 1);
        x.which();
        x.unsee();
        x.seed(5L);
        x.drawn(2);
        x.keep(0);
        Edges.counts(x, 14, 3);
        x.undo();
        Edges.counts(x, 5, 2, 14, 2);
    }

    /** After an act all is as without it, when it is undone. */
    private static void undone(String act, Edges.Maker maker, Edges.Call made) {
        SpinWheels x = maker.make();
        int acts = x.count(14);
        Due.isTrue(act + " is refused", made.on(x) > SpinWheels.UNKNOWN);
        Due.same("undo() of " + act, x.undo(), acts);
        Edges.sameInAll("undone " + act, x, maker.make());
    }

    static void p15_undo_ofTick() {
        undone("tick(1)", Edges::busy, x -> x.tick(1));
        undone("tick(99)", Edges::busy, x -> x.tick(99));
        undone("tick(99)", Edges::safe, x -> x.tick(99));
    }

    static void p15_undo_ofTheThirdMiss() {
        SpinWheels x = after(MISSING, 4);
        x.tick(1);
        Edges.counts(x, 4, 1, 6, 3, 9, 0);
        Due.same("undo()", x.undo(), 1);
        Edges.counts(x, 4, 0, 5, 4, 6, 2, 9, 2);
    }

    static void p15_undo_ofCrossings() {
        SpinWheels x = after("K50005w+4+0+0w-8+0+0", 1);
        x.tick(1);
        Edges.counts(x, 7, 4);
        x.undo();
        Edges.counts(x, 5, 1, 7, 0);
        Edges.speeds(x, 1f, 1f, -1f, -1f);
    }

    static void p15_undo_ofKill() {
        undone("kill(0)", Edges::busy, x -> x.kill(0));
        undone("kill(0)", Edges::fresh, x -> x.kill(0));
        undone("kill(1)", Edges::safe, x -> x.kill(1));
    }

    static void p15_undo_ofMend() {
        undone("mend(2)", Edges::busy, x -> x.mend(2));
        undone("mend(3)", Edges::lifeless, x -> x.mend(3));
    }

    static void p15_undo_ofFree() {
        undone("free()", () -> {
            SpinWheels x = Edges.safe();
            x.mend(2);
            return x;
        }, x -> x.free());
    }

    static void p15_undo_ofSet() {
        for (int i = 0; i < 4; i++) {
            int what = i;
            undone("set(" + i + ", ..)", Edges::busy, x -> x.set(what, what == 0 ? 99 : 9));
        }
    }

    static void p15_undo_ofWant() {
        undone("want(0, ..)", Edges::busy, x -> x.want(0, 9, 9, 9));
        undone("want(1, ..)", Edges::busy, x -> x.want(1, -9, -9, -9));
    }

    static void p15_undo_ofWantOfTheFirstAndTheSixthCommand() {
        SpinWheels x = sixWants();
        x.want(0, 9, 9, 9);
        x.want(5, 8, 8, 8);
        x.undo();
        for (int k = 0; k < 3; k++) {
            Due.same("told(true, 0, " + k + ")", x.told(true, 0, k), 9);
            Due.same("told(true, 5, " + k + ")", x.told(true, 5, k), k == 1 ? -6 : 6);
        }
        x.undo();
        Edges.sameCraft("undone twice", x, sixWants());
    }

    static void p15_undo_leavesTextObservationsSeedAndSlots() {
        SpinWheels x = Edges.ticked(1);
        x.write('?');
        x.see(0, 0, 0, 1);
        x.seed(8L);
        x.keep(1);
        x.undo();
        Edges.counts(x, 0, 7, 15, 1);
        Due.same("seed(0)", x.seed(0L), 8);
        Due.same("again(1)", x.again(1), 1);
    }
}
