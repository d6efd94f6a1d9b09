/** The three examples of the document. */
public final class ExampleTest {
    public static void main(String[] args) {
        stepKeepsOffZero();
        twoDeadWheels();
        noCommands();
        Due.end("ExampleTest");
    }

    private static void stepKeepsOffZero() {
        SpinWheels x = new SpinWheels();
        int[] letters = {75, 50, 48, 49, 49, 51, 119, 43, 53, 45, 51, 43, 50};
        for (int i = 0; i < letters.length; i++) {
            Due.same("write(" + letters[i] + ")", x.write(letters[i]), i + 1);
        }
        Due.same("craft()", x.craft(), 1);
        Due.same("plan(0)", x.plan(0), 1);
        Due.same("tick(9)", x.tick(9), 0);
    }

    private static void twoDeadWheels() {
        SpinWheels x = new SpinWheels();
        Due.same("write(75)", x.write(75), 1);
        Due.same("write(48)", x.write(48), 2);
        Due.same("write(53)", x.write(53), 3);
        Due.same("fault()", x.fault(), 1);
        Due.same("craft()", x.craft(), -3);
        Due.same("wipe()", x.wipe(), 3);
        Due.same("kill(2)", x.kill(2), 1);
        Due.same("kill(0)", x.kill(0), 2);
        Due.same("free()", x.free(), -3);
        Due.same("mend(0)", x.mend(0), 1);
        Due.same("free()", x.free(), 1);
        Due.same("count(9)", x.count(9), 0);
        Due.same("undo()", x.undo(), 3);
        Due.same("count(4)", x.count(4), 1);
        Due.same("worst()", x.worst(), 0);
        Due.same("spun()", x.spun(), 0);
    }

    private static void noCommands() {
        SpinWheels x = new SpinWheels();
        Due.same("told(true,0,0)", x.told(true, 0, 0), -1);
        Due.same("share(1,true)", x.share(1, true), 5);
        Due.same("share(1,false)", x.share(1, false), 1);
        Due.same("lost(2,true)", x.lost(2, true), 512);
        Due.same("dumps()", x.dumps(), 0);
        Due.same("set(0,10)", x.set(0, 10), 50);
        Due.same("set(3,0)", x.set(3, 0), -2);
        Due.same("seed(7L)", x.seed(7L), 0);
        Due.same("drawn(20)", x.drawn(20), 0);
        Due.same("see(3,0,1,0)", x.see(3, 0, 1, 0), 1);
        Due.same("which()", x.which(), 15);
        Due.same("judge(2,10506005L)", x.judge(2, 10506005L), -9);
        Due.same("keep(0)", x.keep(0), 0);
        Due.same("again(1)", x.again(1), -3);
        Due.same("wheel(3,5)", x.wheel(3, 5), 1);
        Due.same("later(99,2)", x.later(99, 2), 0);
    }
}
