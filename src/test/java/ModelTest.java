import java.util.Random;

/** Long runs of drawn calls, each answer and the whole visible state compared with the model's. */
public final class ModelTest {
    private static final int RUNS = 2000;
    /** What an object answers after its 512th call is free: so many calls are made before the last look at all. */
    private static final int CALLS = 512 - 64;
    /** Calls between two looks at all, which cost calls too. */
    private static final int BETWEEN = 24;
    private static final String[] NAMES = {"tick", "kill", "mend", "free", "set", "want", "undo", "plan", "next",
        "ahead", "later", "spun", "dumps", "worst", "judge", "see", "unsee", "which", "share", "lost", "seed", "drawn",
        "keep", "again", "count", "wheel", "told", "momentum", "write", "wipe", "fault", "craft"};

    private final Random random;
    private final SpinWheels x = new SpinWheels();
    private final Model m = new Model();
    private final StringBuilder told = new StringBuilder();
    private int asked;

    private ModelTest(long seed) {
        random = new Random(seed);
    }

    public static void main(String[] args) {
        for (int run = 0; run < RUNS; run++) {
            new ModelTest(run).run(run);
        }
        Due.end("ModelTest");
    }

    private void run(int run) {
        if (random.nextInt(8) > 0) {
            type(text());
            same("craft", x.craft(), m.craft());
        }
        // one that types a new text makes up to 134 calls
        for (int i = 1; asked + 134 < CALLS; i++) {
            String name = NAMES[random.nextInt(NAMES.length)];
            if (random.nextInt(4) == 0) {
                name = random.nextInt(3) == 0 ? "want" : "tick";
            }
            told.append(name);
            call(name);
            if (i % BETWEEN == 0 && asked + 64 < CALLS && !sameState()) {
                System.out.println("run " + run + ": " + told);
                return;
            }
        }
        if (!sameState()) {
            System.out.println("run " + run + ": " + told);
        }
    }

    private void type(String text) {
        for (int i = 0; i < text.length(); i++) {
            same("write", x.write(text.charAt(i)), m.write(text.charAt(i)));
        }
    }

    private String text() {
        StringBuilder s = new StringBuilder("K");
        s.append(random.nextInt(3) > 0 ? 10 + random.nextInt(12) : 10 + random.nextInt(90));
        s.append(random.nextInt(2) > 0 ? random.nextInt(3) : random.nextInt(10));
        s.append(random.nextInt(10)).append(1 + random.nextInt(9));
        parts(s, 'w', random.nextInt(7));
        parts(s, 'f', random.nextInt(7));
        if (random.nextInt(8) == 0) {
            parts(s, random.nextBoolean() ? 'w' : 'f', random.nextInt(7));
        }
        if (random.nextInt(8) == 0) {
            s.setCharAt(random.nextInt(s.length()), "K09wf+-5 1".charAt(random.nextInt(10)));
        }
        if (random.nextInt(12) == 0) {
            s.setLength(random.nextInt(s.length()));
        }
        return s.toString();
    }

    private void parts(StringBuilder s, char kind, int n) {
        int most = random.nextBoolean() ? 10 : 3;
        for (int i = 0; i < n; i++) {
            s.append(kind);
            for (int k = 0; k < 3; k++) {
                s.append(random.nextBoolean() ? '+' : '-').append(random.nextInt(most));
            }
        }
    }

    /** Mostly lo to hi, sometimes one beyond. */
    private int in(int lo, int hi) {
        int at = random.nextInt(40);
        int v = at == 0 ? lo - 1 : at == 1 ? hi + 1 : at == 2 ? lo : at == 3 ? hi : lo + random.nextInt(hi - lo + 1);
        told.append(' ').append(v);
        return v;
    }

    private long row() {
        long row = 0;
        int n = 1 + random.nextInt(3);
        for (int i = 0; i < 3; i++) {
            int kind = random.nextInt(9);
            int a = kind == 1 || kind == 7 ? random.nextInt(3) : random.nextInt(4);
            int b = kind == 1 || kind == 7 ? random.nextInt(10) : random.nextInt(12) / 11;
            int c = kind > 3 && kind < 7 ? random.nextInt(3) : random.nextInt(12) / 11;
            if (kind == 4 || kind == 6 || kind == 7) {
                a = random.nextInt(6) / 5;
            }
            row = row * 10000 + 1000 * kind + 100 * a + 10 * b + c;
            if (i == n - 1) {
                break;
            }
        }
        return random.nextInt(30) == 0 ? -1 : row;
    }

    private void call(String name) {
        int a;
        int b;
        int c;
        int d;
        boolean up = random.nextBoolean();
        switch (name) {
            case "tick": a = in(1, random.nextInt(5) == 0 ? 99 : 4); same(name, x.tick(a), m.tick(a)); break;
            case "kill": a = in(0, 3); same(name, x.kill(a), m.kill(a)); break;
            case "mend": a = in(0, 3); same(name, x.mend(a), m.mend(a)); break;
            case "free": same(name, x.free(), m.free()); break;
            case "set":
                a = in(0, 3);
                b = a == 0 ? in(10, random.nextBoolean() ? 20 : 99) : in(a == 3 ? 1 : 0, 9);
                same(name, x.set(a, b), m.set(a, b));
                break;
            case "want":
                a = in(0, 5); b = in(-9, 9); c = in(-9, 9); d = in(-9, 9);
                same(name, x.want(a, b, c, d), m.want(a, b, c, d));
                break;
            case "undo": same(name, x.undo(), m.undo()); break;
            case "plan": a = in(0, 3); same(name, x.plan(a), m.plan(a)); break;
            case "next": a = in(0, 3); same(name, x.next(a), m.next(a)); break;
            case "ahead": a = in(0, 99); b = in(0, 3); same(name, x.ahead(a, b), m.ahead(a, b)); break;
            case "later": a = in(0, 99); b = in(0, 4); same(name, x.later(a, b), m.later(a, b)); break;
            case "spun": same(name, x.spun(), m.spun()); break;
            case "dumps": same(name, x.dumps(), m.dumps()); break;
            case "worst": same(name, x.worst(), m.worst()); break;
            case "judge": a = in(1, 3); long row = row(); same(name, x.judge(a, row), m.judge(a, row)); break;
            case "see":
                a = in(0, 9); b = in(0, 2); c = in(0, b == 1 ? random.nextInt(3) == 0 ? 99 : 5 : b == 0 ? 1 : 3);
                d = in(0, 1);
                same(name, x.see(a, b, c, d), m.see(a, b, c, d));
                break;
            case "unsee": same(name, x.unsee(), m.unsee()); break;
            case "which": same(name, x.which(), m.which()); break;
            default: callOther(name, up); break;
        }
    }

    private void callOther(String name, boolean up) {
        int a;
        int b;
        switch (name) {
            case "share": a = in(0, 3); same(name, x.share(a, up), m.share(a, up)); break;
            case "lost": a = in(0, 10); same(name, x.lost(a, up), m.lost(a, up)); break;
            case "seed": long v = random.nextLong(); same(name, x.seed(v), m.seed(v)); break;
            case "drawn": a = in(1, 20); same(name, x.drawn(a), m.drawn(a)); break;
            case "keep": a = in(0, 1); same(name, x.keep(a), m.keep(a)); break;
            case "again": a = in(0, 1); same(name, x.again(a), m.again(a)); break;
            case "count": a = in(0, 15); same(name, x.count(a), m.count(a)); break;
            case "wheel": a = in(0, 3); b = in(0, 5); same(name, x.wheel(a, b), m.wheel(a, b)); break;
            case "told": a = in(0, 5); b = in(0, 2); same(name, x.told(up, a, b), m.told(up, a, b)); break;
            case "momentum": a = in(0, 6); same(name, x.momentum(a), m.momentum(a)); break;
            case "write": a = in(0, 255); same(name, x.write(a), m.write(a)); break;
            case "wipe":
                same(name, x.wipe(), m.wipe());
                type(text());
                same("fault", x.fault(), m.fault());
                break;
            case "fault": same(name, x.fault(), m.fault()); break;
            default:
                if (random.nextInt(4) == 0) {
                    same(name, x.craft(), m.craft());
                }
                break;
        }
    }

    private void same(String name, long got, long due) {
        asked++;
        told.append(" = ").append(due).append("; ");
        if (got != due) {
            System.out.println(told);
        }
        Due.same(name, got, due);
    }

    private boolean sameState() {
        boolean good = true;
        asked += 63;
        for (int i = 0; i < 16; i++) {
            good &= x.count(i) == m.count(i);
        }
        for (int i = 0; i < 4; i++) {
            good &= x.wheel(i, 0) == m.wheel(i, 0);
        }
        for (int i = 0; i < 7; i++) {
            good &= x.momentum(i) == m.momentum(i);
        }
        for (int i = 0; i < 6; i++) {
            for (int k = 0; k < 3; k++) {
                good &= x.told(true, i, k) == m.told(true, i, k) && x.told(false, i, k) == m.told(false, i, k);
            }
        }
        Due.isTrue("the states differ", good);
        return good;
    }
}
