/** Edge cases of promises 1 to 8: the craft and how it is read. */
public final class CraftEdgeTest {
    private static final int MIN = Integer.MIN_VALUE;
    private static final int MAX = Integer.MAX_VALUE;
    /** A part of each kind, so that each place of a text is in it. */
    private static final String WHOLE = "K50115w+1-2+3f-4+5-6";

    public static void main(String[] args) {
        Edges.run(CraftEdgeTest.class, 1, 8);
        Due.end("CraftEdgeTest");
    }

    private static SpinWheels typed(String text) {
        SpinWheels x = new SpinWheels();
        Due.type(x, text);
        return x;
    }

    private static void faultOf(String text, int due) {
        Due.same("fault() of '" + text + "'", typed(text).fault(), due);
    }

    /** What may stand at a place of WHOLE, and what not. */
    private static void place(int at, String taken, String refused) {
        for (char c : taken.toCharArray()) {
            faultOf(WHOLE.substring(0, at) + c + WHOLE.substring(at + 1), SpinWheels.NONE);
        }
        for (char c : refused.toCharArray()) {
            faultOf(WHOLE.substring(0, at) + c + WHOLE.substring(at + 1), at);
        }
    }

    // ---- promise 1: a new object

    static void p01_new_textIsEmpty() {
        Due.same("count(0)", new SpinWheels().count(0), 0);
        Due.same("fault()", new SpinWheels().fault(), 0);
        Due.same("wipe()", new SpinWheels().wipe(), 0);
    }

    static void p01_new_noCommands() {
        Due.same("count(1)", new SpinWheels().count(1), 0);
        Due.same("told(true, 0, 0)", new SpinWheels().told(true, 0, 0), SpinWheels.UNKNOWN);
    }

    static void p01_new_noFields() {
        Due.same("count(2)", new SpinWheels().count(2), 0);
        Due.same("told(false, 0, 0)", new SpinWheels().told(false, 0, 0), SpinWheels.UNKNOWN);
    }

    static void p01_new_noObservations() {
        Due.same("count(15)", new SpinWheels().count(15), 0);
        Due.same("unsee()", new SpinWheels().unsee(), 0);
        Due.same("which()", new SpinWheels().which(), 15);
    }

    static void p01_new_seedIs0() {
        Due.same("seed(3)", new SpinWheels().seed(3L), 0);
    }

    static void p01_new_nothingIsSaved() {
        Due.same("again(0)", new SpinWheels().again(0), SpinWheels.STATE);
        Due.same("again(1)", new SpinWheels().again(1), SpinWheels.STATE);
    }

    static void p01_new_nothingCanBeUndone() {
        Due.same("count(14)", new SpinWheels().count(14), 0);
        Due.same("undo()", new SpinWheels().undo(), SpinWheels.STATE);
    }

    static void p01_new_settingsAreTheFirstOnes() {
        Edges.counts(new SpinWheels(), 10, 50, 11, 1, 12, 1, 13, 5);
    }

    static void p01_new_wheelsAreAliveAndRest() {
        Edges.counts(new SpinWheels(), 3, 0);
        Edges.speeds(new SpinWheels(), 0f, 0f, 0f, 0f);
        for (int i = 0; i < 4; i++) {
            Due.same("wheel(" + i + ", 2)", new SpinWheels().wheel(i, 2), 0);
        }
    }

    static void p01_new_modeSpinClockAndCountersAre0() {
        Edges.counts(new SpinWheels(), 4, 0, 5, 0, 6, 0, 7, 0, 8, 0, 9, 0);
        Due.same("momentum(6)", new SpinWheels().momentum(6), 0);
    }

    static void p01_new_the512thCallIsAnsweredAsAnyOther() {
        SpinWheels x = new SpinWheels();
        for (int i = 1; i <= 511; i++) {
            x.tick(99);
        }
        Due.same("count(5), the 512th call", x.count(5), 511 * 99);
    }

    static void p01_new_sharesNothingWithAnother() {
        SpinWheels other = Edges.safe();
        SpinWheels x = new SpinWheels();
        other.tick(1);
        Edges.sameInAll("beside another", x, new SpinWheels());
    }

    // ---- promise 2: write

    static void p02_write_letterMinus1IsOutside() {
        Edges.refuses("write", SpinWheels.OUTSIDE, Edges::busy, SpinWheels::write, -1, MIN);
    }

    static void p02_write_letter256IsOutside() {
        // 331 and -181 would be a K if only eight bits counted
        Edges.refuses("write", SpinWheels.OUTSIDE, Edges::busy, SpinWheels::write, 256, 331, -181, MAX);
    }

    static void p02_write_letter0IsTaken() {
        SpinWheels x = new SpinWheels();
        Due.same("write(0)", x.write(0), 1);
        Due.same("fault()", x.fault(), 0);
    }

    static void p02_write_letter255IsTaken() {
        SpinWheels x = typed("K50115");
        Due.same("write(255)", x.write(255), 7);
        Due.same("fault()", x.fault(), 6);
    }

    static void p02_write_toAnEmptyText() {
        Due.same("write(75)", new SpinWheels().write('K'), 1);
    }

    static void p02_write_the120thLetterIsTaken() {
        SpinWheels x = new SpinWheels();
        for (int i = 1; i <= 120; i++) {
            Due.same("write(119), letter " + i, x.write('w'), i);
        }
        Due.same("count(0)", x.count(0), 120);
    }

    static void p02_write_the121stLetterIsFull() {
        Edges.refuses("write", SpinWheels.FULL, Edges::wordy, SpinWheels::write, 'w', 0, 255);
    }

    static void p02_write_outsideComesBeforeFull() {
        Edges.refuses("write", SpinWheels.OUTSIDE, Edges::wordy, SpinWheels::write, -1, 256);
    }

    static void p02_write_goesOnAfterAFullTextIsWiped() {
        SpinWheels x = Edges.wordy();
        x.wipe();
        Due.same("write(75)", x.write('K'), 1);
        Due.type(x, "10001");
        Due.same("fault()", x.fault(), SpinWheels.NONE);
    }

    static void p02_write_changesTheTextAlone() {
        SpinWheels x = Edges.busy();
        x.write('?');
        Due.same("count(0)", x.count(0), 35);
        x.wipe();
        SpinWheels y = Edges.busy();
        y.wipe();
        Edges.sameInAll("written and wiped", x, y);
    }

    // ---- promise 3: wipe

    static void p03_wipe_ofAnEmptyText() {
        SpinWheels x = new SpinWheels();
        Due.same("wipe()", x.wipe(), 0);
        Edges.sameInAll("wiped", x, new SpinWheels());
    }

    static void p03_wipe_ofOneLetter() {
        SpinWheels x = typed("K");
        Due.same("wipe()", x.wipe(), 1);
        Due.same("count(0)", x.count(0), 0);
    }

    static void p03_wipe_ofAFullText() {
        SpinWheels x = Edges.wordy();
        Due.same("wipe()", x.wipe(), 120);
        Due.same("count(0)", x.count(0), 0);
        Due.same("fault()", x.fault(), 0);
    }

    static void p03_wipe_twice() {
        SpinWheels x = typed("K50");
        Due.same("wipe()", x.wipe(), 3);
        Due.same("wipe() again", x.wipe(), 0);
    }

    static void p03_wipe_leavesTheCraft() {
        SpinWheels x = Edges.busy();
        Due.same("wipe()", x.wipe(), 34);
        Due.type(x, "K20113w+4-2+1w-3+5+0f+1-9+2f-4+0+7");
        Edges.sameInAll("wiped and written again", x, Edges.busy());
    }

    // ---- promise 4: fault

    static void p04_fault_ofAnEmptyTextIs0() {
        faultOf("", 0);
    }

    static void p04_fault_ofAnIncompleteTextIsItsLength() {
        for (int n = 0; n < WHOLE.length(); n++) {
            if (n != 6 && n != 13) {
                faultOf(WHOLE.substring(0, n), n);
            }
        }
    }

    static void p04_fault_ofACompleteTextIsNone() {
        faultOf(WHOLE.substring(0, 6), SpinWheels.NONE);
        faultOf(WHOLE.substring(0, 13), SpinWheels.NONE);
        faultOf(WHOLE, SpinWheels.NONE);
    }

    static void p04_fault_firstLetterIsK() {
        place(0, "K", "JLk kw5" + (char) 0 + (char) 255);
    }

    static void p04_fault_topBeginsWith1To9() {
        place(1, "19", "0:/ +K" + (char) 0 + (char) 255);
    }

    static void p04_fault_topEndsWithADigit() {
        place(2, "09", "/: +w" + (char) 255);
    }

    static void p04_fault_bandIsADigit() {
        place(3, "09", "/: -f");
    }

    static void p04_fault_gainIsADigit() {
        place(4, "09", "/: -f");
    }

    static void p04_fault_coilLimitIs1To9() {
        place(5, "19", "0:/ +w");
    }

    static void p04_fault_partBeginsWithWOrF() {
        place(6, "wf", "vxegWFK +0" + (char) 255);
        place(13, "wf", "vxegWFK +0");
    }

    static void p04_fault_numberBeginsWithASign() {
        for (int at = 7; at < WHOLE.length(); at += at == 11 ? 3 : 2) {
            place(at, "+-", ",*. 0w");
        }
    }

    static void p04_fault_numberEndsWithADigit() {
        for (int at = 8; at < WHOLE.length(); at += at == 12 ? 3 : 2) {
            place(at, "09", "/:+- f");
        }
    }

    static void p04_fault_partHasNoFourthNumber() {
        faultOf("K50115w+1-2+3+4", 13);
    }

    static void p04_fault_blankNowhere() {
        for (int at = 0; at <= WHOLE.length(); at++) {
            faultOf(WHOLE.substring(0, at) + ' ' + WHOLE.substring(at), at);
        }
    }

    static void p04_fault_isTheFirstOfSeveral() {
        faultOf("K50x15y+1", 3);
        faultOf("x", 0);
        faultOf("Kx", 1);
        faultOf("K50115w+1+", 10);
        faultOf("K50115w+1x", 9);
    }

    static void p04_fault_sixCommandsAndNoSeventh() {
        String six = "w+1+1+1".repeat(6);
        faultOf("K50115" + six, SpinWheels.NONE);
        faultOf("K50115" + six + "w", 48);
        faultOf("K50115" + six + "w+1+1+1", 48);
        faultOf("K50115f+1+1+1" + six + "w+1+1+1", 55);
    }

    static void p04_fault_sixFieldsAndNoSeventh() {
        String six = "f+1+1+1".repeat(6);
        faultOf("K50115" + six, SpinWheels.NONE);
        faultOf("K50115" + six + "f", 48);
        faultOf("K50115" + six + "f+1+1+1", 48);
        faultOf("K50115w+1+1+1" + six + "f+1+1+1", 55);
    }

    static void p04_fault_sixOfOneKindLeaveRoomForTheOther() {
        faultOf("K50115" + "w+1+1+1".repeat(6) + "f+1+1+1", SpinWheels.NONE);
        faultOf("K50115" + "f+1+1+1".repeat(6) + "w+1+1+1", SpinWheels.NONE);
        faultOf("K50115" + "w+1+1+1".repeat(6) + "f", 49);
        faultOf("K50115" + "f+1+1+1".repeat(6) + "w", 49);
    }

    static void p04_fault_nothingGoesBehindTwelveParts() {
        String all = "K50115" + "w+1+1+1f-1-1-1".repeat(6);
        faultOf(all, SpinWheels.NONE);
        faultOf(all + "w", 90);
        faultOf(all + "f", 90);
        faultOf(all + "?", 90);
    }

    static void p04_fault_ofAFullText() {
        String all = "K50115" + "w+1+1+1f-1-1-1".repeat(6);
        faultOf(all + "f-1-1-1".repeat(4) + "f-", 90);
        faultOf("K".repeat(120), 1);
        faultOf(" ".repeat(120), 0);
        faultOf("K5011500".repeat(15), 6);
    }

    static void p04_fault_changesNothing() {
        Edges.changesNothing("fault()", SpinWheels.NONE, Edges::busy, x -> x.fault());
        Edges.changesNothing("fault()", 35, Edges::wordy, x -> x.fault());
    }

    // ---- promise 5: craft

    static void p05_craft_ofAnEmptyTextIsState() {
        Edges.changesNothing("craft()", SpinWheels.STATE, () -> {
            SpinWheels x = Edges.busy();
            x.wipe();
            return x;
        }, x -> x.craft());
    }

    static void p05_craft_ofATextWithAFaultIsState() {
        Edges.changesNothing("craft()", SpinWheels.STATE, Edges::wordy, x -> x.craft());
        Edges.changesNothing("craft()", SpinWheels.STATE, () -> {
            SpinWheels x = Edges.safe();
            x.write('?');
            return x;
        }, x -> x.craft());
    }

    static void p05_craft_ofAnIncompleteTextIsState() {
        Edges.changesNothing("craft()", SpinWheels.STATE, () -> {
            SpinWheels x = Edges.safe();
            Due.type(x, "w+1+1+");
            return x;
        }, x -> x.craft());
        Due.same("craft() of K5011", typed("K5011").craft(), SpinWheels.STATE);
    }

    static void p05_craft_withoutParts() {
        SpinWheels x = typed("K50115");
        Due.same("craft()", x.craft(), 0);
        Edges.counts(x, 1, 0, 2, 0);
    }

    static void p05_craft_answersTheCommandsAndNotTheFields() {
        Due.same("craft()", typed("K50115f+0+0+0f+0+0+0").craft(), 0);
        Due.same("craft()", typed("K50115f+0+0+0w+0+0+0f+0+0+0").craft(), 1);
    }

    static void p05_craft_withSixOfEach() {
        SpinWheels x = typed("K50115" + "f+1+2+3".repeat(6) + "w-1-2-3".repeat(6));
        Due.same("craft()", x.craft(), 6);
        Edges.counts(x, 1, 6, 2, 6);
        Due.same("told(true, 5, 2)", x.told(true, 5, 2), -3);
        Due.same("told(false, 5, 2)", x.told(false, 5, 2), 3);
    }

    static void p05_craft_withTheLeastSettings() {
        SpinWheels x = Due.craft("K10001");
        Edges.counts(x, 10, 10, 11, 0, 12, 0, 13, 1);
    }

    static void p05_craft_withTheGreatestSettings() {
        SpinWheels x = Due.craft("K99999");
        Edges.counts(x, 10, 99, 11, 9, 12, 9, 13, 9);
    }

    static void p05_craft_withTheLeastAndTheGreatestNumbers() {
        SpinWheels x = Due.craft("K50115w-9+9-0f+9-9+0");
        int[] due = {-9, 9, 0, 9, -9, 0};
        for (int k = 0; k < 3; k++) {
            Due.same("told(true, 0, " + k + ")", x.told(true, 0, k), due[k]);
            Due.same("told(false, 0, " + k + ")", x.told(false, 0, k), due[3 + k]);
        }
    }

    static void p05_craft_partsInAnyOrder() {
        SpinWheels x = Due.craft("K50115f+1+0+0w+2+0+0w+3+0+0f+4+0+0w+5+0+0");
        int[] wants = {2, 3, 5};
        for (int i = 0; i < 3; i++) {
            Due.same("told(true, " + i + ", 0)", x.told(true, i, 0), wants[i]);
        }
        Due.same("told(false, 0, 0)", x.told(false, 0, 0), 1);
        Due.same("told(false, 1, 0)", x.told(false, 1, 0), 4);
    }

    static void p05_craft_withFewerPartsThanBefore() {
        SpinWheels x = Due.craft("K50115w+1+1+1w+2+2+2f+3+3+3f+4+4+4");
        x.wipe();
        Due.type(x, "K50115w+5+5+5f+6+6+6");
        Due.same("craft()", x.craft(), 1);
        Due.same("told(true, 1, 0)", x.told(true, 1, 0), SpinWheels.UNKNOWN);
        Due.same("told(false, 1, 0)", x.told(false, 1, 0), SpinWheels.UNKNOWN);
        x.wipe();
        Due.type(x, "K50115");
        Due.same("craft()", x.craft(), 0);
        Due.same("told(true, 0, 0)", x.told(true, 0, 0), SpinWheels.UNKNOWN);
        Due.same("told(false, 0, 0)", x.told(false, 0, 0), SpinWheels.UNKNOWN);
    }

    static void p05_craft_restIsAsAtFirst() {
        SpinWheels x = Edges.safe();
        Due.same("craft()", x.craft(), 2);
        x.unsee();
        x.seed(0L);
        Edges.sameInAll("read again", x, Due.craft("K20113w+4-2+1w-3+5+0f+1-9+2f-4+0+7"));
    }

    static void p05_craft_countersAreAsAtFirst() {
        SpinWheels x = Due.craft("K10005w+4+0+0w-8+0+0w+9+9+9w+9+9+9w+9+9+9");
        x.tick(5);
        Edges.counts(x, 5, 5, 6, 1, 7, 7, 9, 1);
        x.craft();
        Edges.counts(x, 5, 0, 6, 0, 7, 0, 8, 0, 9, 0);
        x = Edges.safe();
        Edges.counts(x, 4, 1, 8, 2);
        x.craft();
        Edges.counts(x, 3, 0, 4, 0, 8, 0);
        Due.same("momentum(6)", x.momentum(6), 0);
    }

    static void p05_craft_nothingCanBeUndone() {
        SpinWheels x = Edges.busy();
        x.craft();
        Due.same("count(14)", x.count(14), 0);
        Due.same("undo()", x.undo(), SpinWheels.STATE);
    }

    static void p05_craft_slotsAreEmpty() {
        SpinWheels x = Edges.busy();
        x.craft();
        Due.same("again(0)", x.again(0), SpinWheels.STATE);
        Due.same("again(1)", x.again(1), SpinWheels.STATE);
    }

    static void p05_craft_textObservationsAndSeedStay() {
        SpinWheels x = Edges.watched();
        x.craft();
        Edges.counts(x, 0, 34, 15, 6);
        Due.same("fault()", x.fault(), SpinWheels.NONE);
        Due.same("seed(0)", x.seed(0L), 99);
    }

    // ---- promise 6: wheel

    static void p06_wheel_wheelMinus1IsUnknown() {
        Edges.refuses("wheel", SpinWheels.UNKNOWN, Edges::busy, (x, i) -> x.wheel(i, 0), -1, MIN);
    }

    static void p06_wheel_wheel4IsUnknown() {
        Edges.refuses("wheel", SpinWheels.UNKNOWN, Edges::busy, (x, i) -> x.wheel(i, 0), 4, MAX);
    }

    static void p06_wheel_whatMinus1IsOutside() {
        Edges.refuses("wheel", SpinWheels.OUTSIDE, Edges::busy, (x, what) -> x.wheel(0, what), -1, MIN);
    }

    static void p06_wheel_what6IsOutside() {
        Edges.refuses("wheel", SpinWheels.OUTSIDE, Edges::busy, (x, what) -> x.wheel(3, what), 6, MAX);
    }

    static void p06_wheel_unknownComesBeforeOutside() {
        Edges.refuses("wheel", SpinWheels.UNKNOWN, Edges::busy, (x, i) -> x.wheel(i, 6), -1, 4);
        Edges.refuses("wheel", SpinWheels.UNKNOWN, Edges::busy, (x, i) -> x.wheel(i, -1), -1, 4);
    }

    static void p06_wheel_leastAndGreatestWheelAndWhat() {
        int[][] axes = {{1, 1, 1}, {1, -1, -1}, {-1, 1, -1}, {-1, -1, 1}};
        for (int i = 0; i < 4; i++) {
            int wheel = i;
            Edges.changesNothing("wheel(" + i + ", 5)", axes[i][2], Edges::busy, x -> x.wheel(wheel, 5));
            Edges.changesNothing("wheel(" + i + ", 2)", i == 2 ? 1 : 0, Edges::busy, x -> x.wheel(wheel, 2));
            Due.same("wheel(" + i + ", 3)", new SpinWheels().wheel(i, 3), axes[i][0]);
            Due.same("wheel(" + i + ", 4)", new SpinWheels().wheel(i, 4), axes[i][1]);
        }
        Due.same("wheel(0, 0)", new SpinWheels().wheel(0, 0), 0);
    }

    static void p06_wheel_axisOfADeadWheelStays() {
        SpinWheels x = new SpinWheels();
        x.kill(0);
        x.tick(1);
        for (int i = 0; i < 4; i++) {
            for (int k = 3; k < 6; k++) {
                Due.same("wheel(" + i + ", " + k + ")", x.wheel(i, k), new SpinWheels().wheel(i, k));
            }
        }
    }

    static void p06_wheel_thousandthsAreCutOffTowardsZero() {
        SpinWheels x = Due.craft("K50015w+4+0+0f+0+0+8");
        x.tick(1);
        Edges.speeds(x, 0.9375f, 0.9375f, -0.9375f, -0.9375f);
        Due.same("wheel(0, 1)", x.wheel(0, 1), 937);
        Due.same("wheel(3, 1)", x.wheel(3, 1), -937);
    }

    static void p06_wheel_deadOneKeepsItsSpeed() {
        SpinWheels x = Due.craft("K50005w+4+0+0");
        x.tick(1);
        x.kill(3);
        Due.sameFloat("wheel(3, 0)", x.wheel(3, 0), -1f);
        Due.same("wheel(3, 1)", x.wheel(3, 1), -1000);
        Due.same("wheel(3, 2)", x.wheel(3, 2), 1);
        x.mend(3);
        Due.same("wheel(3, 2) mended", x.wheel(3, 2), 0);
    }

    // ---- promise 7: told

    static void p07_told_rowMinus1IsUnknown() {
        Edges.refuses("told", SpinWheels.UNKNOWN, Edges::busy, (x, row) -> x.told(true, row, 0), -1, MIN);
        Edges.refuses("told", SpinWheels.UNKNOWN, Edges::busy, (x, row) -> x.told(false, row, 0), -1, MIN);
    }

    static void p07_told_rowBehindTheLastIsUnknown() {
        Edges.refuses("told", SpinWheels.UNKNOWN, Edges::busy, (x, row) -> x.told(true, row, 0), 2, MAX);
        Edges.refuses("told", SpinWheels.UNKNOWN, Edges::busy, (x, row) -> x.told(false, row, 0), 2, MAX);
    }

    static void p07_told_noRows() {
        Edges.refuses("told", SpinWheels.UNKNOWN, Edges::fresh, (x, row) -> x.told(true, row, 0), -1, 0, 1);
        Edges.refuses("told", SpinWheels.UNKNOWN, Edges::fresh, (x, row) -> x.told(false, row, 0), -1, 0, 1);
    }

    static void p07_told_sixRows() {
        SpinWheels x = Due.craft("K50115" + "w+1+2+3".repeat(5) + "w-7-8-9" + "f+4+5+6".repeat(5) + "f-4-5-6");
        Due.same("told(true, 5, 0)", x.told(true, 5, 0), -7);
        Due.same("told(true, 5, 2)", x.told(true, 5, 2), -9);
        Due.same("told(true, 6, 0)", x.told(true, 6, 0), SpinWheels.UNKNOWN);
        Due.same("told(false, 5, 0)", x.told(false, 5, 0), -4);
        Due.same("told(false, 5, 2)", x.told(false, 5, 2), -6);
        Due.same("told(false, 6, 0)", x.told(false, 6, 0), SpinWheels.UNKNOWN);
    }

    static void p07_told_eachKindHasItsOwnRows() {
        SpinWheels x = Due.craft("K50115w+1+1+1w+2+2+2f+3+3+3");
        Due.same("told(true, 1, 0)", x.told(true, 1, 0), 2);
        Due.same("told(false, 1, 0)", x.told(false, 1, 0), SpinWheels.UNKNOWN);
        x = Due.craft("K50115f+1+1+1f+2+2+2w+3+3+3");
        Due.same("told(false, 1, 0)", x.told(false, 1, 0), 2);
        Due.same("told(true, 1, 0)", x.told(true, 1, 0), SpinWheels.UNKNOWN);
    }

    static void p07_told_whatMinus1IsOutside() {
        Edges.refuses("told", SpinWheels.OUTSIDE, Edges::busy, (x, what) -> x.told(true, 0, what), -1, MIN);
        Edges.refuses("told", SpinWheels.OUTSIDE, Edges::busy, (x, what) -> x.told(false, 1, what), -1, MIN);
    }

    static void p07_told_what3IsOutside() {
        Edges.refuses("told", SpinWheels.OUTSIDE, Edges::busy, (x, what) -> x.told(true, 0, what), 3, MAX);
        Edges.refuses("told", SpinWheels.OUTSIDE, Edges::busy, (x, what) -> x.told(false, 1, what), 3, MAX);
    }

    static void p07_told_unknownComesBeforeOutside() {
        Edges.refuses("told", SpinWheels.UNKNOWN, Edges::busy, (x, what) -> x.told(true, 2, what), -1, 3);
        Edges.refuses("told", SpinWheels.UNKNOWN, Edges::busy, (x, what) -> x.told(false, -1, what), -1, 3);
    }

    static void p07_told_leastAndGreatestWhat() {
        Edges.changesNothing("told(true, 0, 0)", 4, Edges::busy, x -> x.told(true, 0, 0));
        Edges.changesNothing("told(true, 1, 2)", 2, Edges::busy, x -> x.told(true, 1, 2));
        Edges.changesNothing("told(false, 0, 0)", 1, Edges::busy, x -> x.told(false, 0, 0));
        Edges.changesNothing("told(false, 0, 1)", -9, Edges::busy, x -> x.told(false, 0, 1));
        Edges.changesNothing("told(false, 1, 2)", 7, Edges::busy, x -> x.told(false, 1, 2));
    }

    // ---- promise 8: momentum

    static void p08_momentum_whatMinus1IsOutside() {
        Edges.refuses("momentum", SpinWheels.OUTSIDE, Edges::busy, SpinWheels::momentum, -1, MIN);
    }

    static void p08_momentum_what7IsOutside() {
        Edges.refuses("momentum", SpinWheels.OUTSIDE, Edges::busy, SpinWheels::momentum, 7, MAX);
    }

    static void p08_momentum_leastWhatIsP() {
        SpinWheels x = Due.craft("K50005w+1-2+3");
        x.tick(1);
        Due.sameFloat("momentum(0)", x.momentum(0), 1f);
        Due.sameFloat("momentum(1)", x.momentum(1), -2f);
        Due.sameFloat("momentum(2)", x.momentum(2), 3f);
    }

    static void p08_momentum_greatestWhatIsTheSpin() {
        SpinWheels x = Edges.safe();
        Due.sameFloat("momentum(6)", x.momentum(6), 0.875f);
        Due.same("momentum(6) in mode 0", Edges.busy().momentum(6), 0);
    }

    static void p08_momentum_ofRestIs0() {
        for (int what = 0; what < 7; what++) {
            Due.same("momentum(" + what + ")", new SpinWheels().momentum(what), 0);
        }
    }

    static void p08_momentum_countsDeadWheels() {
        SpinWheels x = Due.craft("K50005w+4+0+0");
        x.tick(1);
        for (int i = 0; i < 4; i++) {
            x.kill(i);
            Due.sameFloat("momentum(0)", x.momentum(0), 4f);
        }
    }

    static void p08_momentum_thousandthsAreCutOffTowardsZero() {
        // the coils take a sixteenth of 4 and of what remains: 3.515625
        String[] texts = {"K50015w+4+0+0w+0+0+0f+0+0+8", "K50015w+0+4+0w+0+0+0f+0+0+8", "K50015w+0+0+4w+0+0+0f+8+0+0"};
        for (int k = 0; k < 3; k++) {
            SpinWheels x = Due.craft(texts[k]);
            x.tick(2);
            Due.sameFloat("momentum(" + k + ")", x.momentum(k), 3.515625f);
            Due.same("momentum(" + (3 + k) + ")", x.momentum(3 + k), 3515);
            x = Due.craft(texts[k].replace("+4", "-4"));
            x.tick(2);
            Due.sameFloat("momentum(" + k + ")", x.momentum(k), -3.515625f);
            Due.same("momentum(" + (3 + k) + ")", x.momentum(3 + k), -3515);
        }
    }

    static void p08_momentum_changesNothing() {
        for (int what = 0; what < 7; what++) {
            int asked = what;
            long due = Edges.safe().momentum(what);
            Edges.changesNothing("momentum(" + what + ")", due, Edges::safe, x -> x.momentum(asked));
        }
    }
}
