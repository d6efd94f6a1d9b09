import java.math.BigInteger;
import java.util.ArrayList;
import java.util.List;
import java.util.regex.Matcher;
import java.util.regex.Pattern;

/** The document once more, with the whole Java library and without care for what it costs, to compare with. */
final class Model {
    private static final int[][] A = {{1, 1, 1}, {1, -1, -1}, {-1, 1, -1}, {-1, -1, 1}};
    private static final int[] LIST = {0, -1, 1, -2, 2, -3, 3, -4, 4};
    private static final Pattern TEXT = Pattern.compile("K[1-9][0-9][0-9][0-9][1-9]([wf]([+-][0-9]){3})*");

    static final class Ship implements Cloneable {
        float[] speed = new float[4];
        boolean[] dead = new boolean[4];
        int mode, missed, crossings, safe, run, clock, top = 50, band = 1, gain = 1, coil = 5;
        float spin;
        List<int[]> wants = new ArrayList<>();
        List<int[]> fields = new ArrayList<>();

        Ship copy() {
            try {
                Ship s = (Ship) clone();
                s.speed = speed.clone();
                s.dead = dead.clone();
                s.wants = new ArrayList<>();
                for (int[] w : wants) {
                    s.wants.add(w.clone());
                }
                return s;
            } catch (CloneNotSupportedException e) {
                throw new IllegalStateException(e);
            }
        }

        int deads() {
            int n = 0;
            for (boolean d : dead) {
                n += d ? 1 : 0;
            }
            return n;
        }

        int[] b(int i) {
            int[] r = A[i].clone();
            if (deads() == 1) {
                for (int d = 0; d < 4; d++) {
                    if (dead[d]) {
                        for (int k = 0; k < 3; k++) {
                            r[k] -= A[d][k];
                        }
                    }
                }
            }
            return r;
        }

        float[] pqr() {
            float[] m = new float[3];
            for (int k = 0; k < 3; k++) {
                m[k] = A[0][k] * speed[0] + A[1][k] * speed[1] + A[2][k] * speed[2] + A[3][k] * speed[3];
            }
            return m;
        }

        /** near, the height and then the four s[i]. */
        float[] tried(int c, int[] add) {
            int[] want = wants.isEmpty() ? new int[3] : wants.get(clock % wants.size());
            float[] r = new float[6];
            for (int i = 0; i < 4; i++) {
                if (dead[i]) {
                    continue;
                }
                int[] b = b(i);
                float e = (b[0] * (want[0] + add[0]) + b[1] * (want[1] + add[1]) + b[2] * (want[2] + add[2])) / 4f;
                float s = speed[i] + (e + c);
                r[2 + i] = s;
                r[1] = Math.max(r[1], Math.abs(s));
                r[0] += Math.abs(s) < band ? 1 : 0;
            }
            return r;
        }

        int step(int[] add) {
            if (deads() > 0) {
                return 0;
            }
            int best = 0;
            for (int c : LIST) {
                float[] old = tried(best, add);
                float[] now = tried(c, add);
                if (now[0] < old[0] || now[0] == old[0] && now[1] < old[1]) {
                    best = c;
                }
            }
            return best;
        }

        void tick(int[] add) {
            if (mode == 1) {
                spin = spin + (2f - spin) * 0.25f;
                safe++;
            } else {
                float[] r = tried(step(add), add);
                if (r[1] > top) {
                    missed++;
                    run++;
                    if (run == 3) {
                        mode = 1;
                        run = 0;
                    }
                } else {
                    run = 0;
                    for (int i = 0; i < 4; i++) {
                        if (!dead[i]) {
                            if (speed[i] < 0 && r[2 + i] > 0 || speed[i] > 0 && r[2 + i] < 0) {
                                crossings++;
                            }
                            speed[i] = r[2 + i];
                        }
                    }
                }
            }
            if (deads() <= 1) {
                coils();
            }
            clock++;
        }

        private void coils() {
            int[] f = fields.isEmpty() ? new int[3] : fields.get(clock % fields.size());
            float[] m = pqr();
            float u = lim(gain * (f[1] * m[2] - f[2] * m[1]) / 16f, coil);
            float v = lim(gain * (f[2] * m[0] - f[0] * m[2]) / 16f, coil);
            float w = lim(gain * (f[0] * m[1] - f[1] * m[0]) / 16f, coil);
            float p = (w * f[1] - v * f[2]) / 64f;
            float q = (u * f[2] - w * f[0]) / 64f;
            float r = (v * f[0] - u * f[1]) / 64f;
            for (int i = 0; i < 4; i++) {
                if (!dead[i]) {
                    int[] b = b(i);
                    speed[i] = lim(speed[i] + (b[0] * p + b[1] * q + b[2] * r) / 4f, top);
                }
            }
        }

        static float lim(float x, int m) {
            if (x > m) {
                return m;
            }
            return x < -m ? -m : x;
        }

        void kill(int i) {
            dead[i] = true;
            if (deads() >= 2) {
                mode = 1;
            }
        }

        Ship after(int n) {
            Ship s = copy();
            for (int i = 0; i < n; i++) {
                s.tick(new int[3]);
            }
            return s;
        }

        Ship killed(int i) {
            Ship s = copy();
            s.kill(i);
            return s;
        }

        int lostIn(int n) {
            Ship s = after(n);
            return s.missed - missed + s.safe - safe;
        }
    }

    private String text = "";
    private Ship ship = new Ship();
    private final List<Ship> past = new ArrayList<>();
    private Ship[] slots = new Ship[2];
    private final List<int[]> sights = new ArrayList<>();
    private long seed;

    private static boolean out(long v, long lo, long hi) {
        return v < lo || v > hi;
    }

    private void act() {
        past.add(ship.copy());
        if (past.size() > 14) {
            past.remove(0);
        }
    }

    int write(int letter) {
        if (out(letter, 0, 255)) {
            return -2;
        }
        if (text.length() == 120) {
            return -4;
        }
        text += (char) letter;
        return text.length();
    }

    int wipe() {
        int n = text.length();
        text = "";
        return n;
    }

    private static boolean canBegin(String head) {
        Matcher m = TEXT.matcher(head);
        return (m.matches() || m.hitEnd())
            && head.chars().filter(c -> c == 'w').count() <= 6 && head.chars().filter(c -> c == 'f').count() <= 6;
    }

    int fault() {
        for (int i = 0; i < text.length(); i++) {
            if (!canBegin(text.substring(0, i + 1))) {
                return i;
            }
        }
        return TEXT.matcher(text).matches() ? -9 : text.length();
    }

    int craft() {
        if (fault() != -9) {
            return -3;
        }
        ship = new Ship();
        ship.top = Integer.parseInt(text.substring(1, 3));
        ship.band = text.charAt(3) - '0';
        ship.gain = text.charAt(4) - '0';
        ship.coil = text.charAt(5) - '0';
        Matcher m = Pattern.compile("([wf])(..)(..)(..)").matcher(text);
        while (m.find()) {
            int[] row = {Integer.parseInt(m.group(2)), Integer.parseInt(m.group(3)), Integer.parseInt(m.group(4))};
            (m.group(1).equals("w") ? ship.wants : ship.fields).add(row);
        }
        past.clear();
        slots = new Ship[2];
        return ship.wants.size();
    }

    int wheel(int wheel, int what) {
        if (out(wheel, 0, 3)) {
            return -1;
        }
        if (out(what, 0, 5)) {
            return -2;
        }
        int[] all = {Float.floatToIntBits(ship.speed[wheel]), (int) (ship.speed[wheel] * 1000f),
            ship.dead[wheel] ? 1 : 0, A[wheel][0], A[wheel][1], A[wheel][2]};
        return all[what];
    }

    int told(boolean wants, int row, int what) {
        List<int[]> rows = wants ? ship.wants : ship.fields;
        if (out(row, 0, rows.size() - 1)) {
            return -1;
        }
        return out(what, 0, 2) ? -2 : rows.get(row)[what];
    }

    int momentum(int what) {
        if (out(what, 0, 6)) {
            return -2;
        }
        if (what == 6) {
            return Float.floatToIntBits(ship.spin);
        }
        return what < 3 ? Float.floatToIntBits(ship.pqr()[what]) : (int) (ship.pqr()[what - 3] * 1000f);
    }

    int tick(int n) {
        if (out(n, 1, 99)) {
            return -2;
        }
        act();
        ship = ship.after(n);
        return ship.mode;
    }

    int kill(int wheel) {
        if (out(wheel, 0, 3)) {
            return -1;
        }
        if (ship.dead[wheel]) {
            return -3;
        }
        act();
        ship.kill(wheel);
        return ship.deads();
    }

    int mend(int wheel) {
        if (out(wheel, 0, 3)) {
            return -1;
        }
        if (!ship.dead[wheel]) {
            return -3;
        }
        act();
        ship.dead[wheel] = false;
        return ship.deads();
    }

    int free() {
        if (ship.mode == 0 || ship.deads() > 1) {
            return -3;
        }
        act();
        ship.mode = 0;
        ship.spin = 0;
        ship.run = 0;
        return ship.deads();
    }

    int set(int what, int v) {
        int[] lo = {10, 0, 0, 1};
        int[] hi = {99, 9, 9, 9};
        if (out(what, 0, 3) || out(v, lo[what], hi[what])) {
            return -2;
        }
        act();
        int[] old = {ship.top, ship.band, ship.gain, ship.coil};
        if (what == 0) {
            ship.top = v;
        } else if (what == 1) {
            ship.band = v;
        } else if (what == 2) {
            ship.gain = v;
        } else {
            ship.coil = v;
        }
        return old[what];
    }

    int want(int row, int x, int y, int z) {
        if (out(row, 0, ship.wants.size() - 1)) {
            return -1;
        }
        if (out(x, -9, 9) || out(y, -9, 9) || out(z, -9, 9)) {
            return -2;
        }
        act();
        return ship.wants.set(row, new int[] {x, y, z})[0];
    }

    int undo() {
        if (past.isEmpty()) {
            return -3;
        }
        ship = past.remove(past.size() - 1);
        return past.size();
    }

    int plan(int what) {
        if (out(what, 0, 3)) {
            return -2;
        }
        if (ship.mode == 1) {
            return -3;
        }
        int step = ship.step(new int[3]);
        float[] r = ship.tried(step, new int[3]);
        int[] all = {step, (int) r[0], Float.floatToIntBits(r[1]), r[1] > ship.top ? 1 : 0};
        return all[what];
    }

    int next(int wheel) {
        if (out(wheel, 0, 3)) {
            return -1;
        }
        if (ship.mode == 1) {
            return -3;
        }
        float s = ship.tried(ship.step(new int[3]), new int[3])[2 + wheel];
        return Float.floatToIntBits(ship.dead[wheel] ? ship.speed[wheel] : s);
    }

    int ahead(int n, int wheel) {
        if (out(n, 0, 99)) {
            return -2;
        }
        return out(wheel, 0, 3) ? -1 : Float.floatToIntBits(ship.after(n).speed[wheel]);
    }

    int later(int n, int what) {
        if (out(n, 0, 99) || out(what, 0, 4)) {
            return -2;
        }
        Ship s = ship.after(n);
        return new int[] {s.mode, s.missed, s.crossings, s.safe, s.run}[what];
    }

    int spun() {
        for (int n = 0; n <= 60; n++) {
            if (ship.after(n).mode == 1) {
                return n;
            }
        }
        return -9;
    }

    int dumps() {
        float[] sizes = new float[10];
        int best = 0;
        for (int g = 0; g < 10; g++) {
            Ship s = ship.copy();
            s.gain = g;
            float[] m = s.after(12).pqr();
            sizes[g] = Math.abs(m[0]) + Math.abs(m[1]) + Math.abs(m[2]);
            best = sizes[g] < sizes[best] ? g : best;
        }
        return best;
    }

    int worst() {
        int best = -9;
        for (int i = 3; i >= 0; i--) {
            if (!ship.dead[i] && (best < 0 || ship.killed(i).lostIn(20) >= ship.killed(best).lostIn(20))) {
                best = i;
            }
        }
        return best;
    }

    int judge(int n, long row) {
        if (out(n, 1, 3) || out(row, 0, BigInteger.TEN.pow(4 * n).longValue() - 1)) {
            return -2;
        }
        String all = String.format("%0" + 4 * n + "d", row);
        Ship s = ship.copy();
        for (int i = 0; i < n; i++) {
            String t = all.substring(4 * i, 4 * i + 4);
            int d = t.charAt(1) - '0';
            int last = t.charAt(3) - '0';
            int two = Integer.parseInt(t.substring(1, 3));
            boolean good = false;
            if (t.matches("1..0") && two > 0) {
                s = s.after(two);
                good = true;
            } else if (t.matches("2[0-3]00") && !s.dead[d]) {
                s.kill(d);
                good = true;
            } else if (t.matches("3[0-3]00") && s.dead[d]) {
                s.dead[d] = false;
                good = true;
            } else if (t.matches("400.")) {
                good = s.mode == last;
            } else if (t.matches("5[0-3]0[0-2]")) {
                good = Math.signum(s.speed[d]) == last - 1;
            } else if (t.matches("600.")) {
                s.gain = last;
                good = true;
            } else if (t.matches("7..0")) {
                good = s.missed == two;
            }
            if (!good) {
                return i;
            }
        }
        return -9;
    }

    int see(int n, int what, int v, int was) {
        int[] most = {1, 99, 3};
        if (out(n, 0, 9) || out(what, 0, 2) || out(v, 0, most[what]) || out(was, 0, 1)) {
            return -2;
        }
        if (sights.size() == 6) {
            return -4;
        }
        sights.add(new int[] {n, what, v, was});
        return sights.size();
    }

    int unsee() {
        int n = sights.size();
        sights.clear();
        return n;
    }

    int which() {
        int set = 0;
        for (int i = 0; i < 4; i++) {
            boolean all = !ship.dead[i];
            for (int[] o : sights) {
                Ship s = ship.killed(i).after(o[0]);
                boolean so = o[1] == 0 ? s.mode == o[2] : o[1] == 1 ? s.missed == o[2] : s.speed[o[2]] < 0;
                all &= so == (o[3] == 1);
            }
            set += all ? 1 << i : 0;
        }
        return set;
    }

    private int kept(List<Integer> alive) {
        Ship s = ship.copy();
        for (int i = 0; i < 4; i++) {
            s.dead[i] = !alive.contains(i);
        }
        s.mode = s.deads() > 1 ? 1 : ship.mode;
        return 20 - s.lostIn(20);
    }

    private void orders(List<Integer> come, int wheel, long[] sums) {
        boolean more = false;
        for (int i = 0; i < 4; i++) {
            if (!ship.dead[i] && !come.contains(i)) {
                more = true;
                List<Integer> longer = new ArrayList<>(come);
                longer.add(i);
                orders(longer, wheel, sums);
            }
        }
        if (!more) {
            int at = come.indexOf(wheel);
            sums[0] += kept(come.subList(0, at + 1)) - kept(come.subList(0, at));
            sums[1]++;
        }
    }

    private static int part(long over, long under, boolean upper) {
        long d = BigInteger.valueOf(over).gcd(BigInteger.valueOf(under)).longValue();
        return (int) ((upper ? over : under) / d);
    }

    int share(int wheel, boolean upper) {
        if (out(wheel, 0, 3)) {
            return -1;
        }
        if (ship.dead[wheel]) {
            return -3;
        }
        long[] sums = new long[2];
        orders(new ArrayList<>(), wheel, sums);
        return part(sums[0], sums[1], upper);
    }

    private long chances(Ship s, int i, int x) {
        if (i == 4) {
            return s.lostIn(20) == 0 ? 1 : 0;
        }
        if (ship.dead[i]) {
            return chances(s, i + 1, x);
        }
        return x * chances(s.killed(i), i + 1, x) + (10 - x) * chances(s, i + 1, x);
    }

    int lost(int x, boolean upper) {
        if (out(x, 0, 10)) {
            return -2;
        }
        return part(chances(ship, 0, x), BigInteger.TEN.pow(4 - ship.deads()).longValue(), upper);
    }

    long seed(long v) {
        long old = seed;
        seed = v;
        return old;
    }

    int drawn(int m) {
        if (out(m, 1, 20)) {
            return -2;
        }
        Ship s = ship.copy();
        for (int i = 0; i < m; i++) {
            seed = seed * 6364136223846793005L + 1442695040888963407L;
            int v = (int) (seed >>> 33);
            s.tick(new int[] {v % 7 - 3, v / 8 % 7 - 3, v / 64 % 7 - 3});
        }
        return s.missed - ship.missed + s.safe - ship.safe;
    }

    int keep(int slot) {
        if (out(slot, 0, 1)) {
            return -1;
        }
        slots[slot] = ship.copy();
        return ship.clock;
    }

    int again(int slot) {
        if (out(slot, 0, 1)) {
            return -1;
        }
        if (slots[slot] == null) {
            return -3;
        }
        ship = slots[slot].copy();
        past.clear();
        return ship.clock;
    }

    int count(int what) {
        if (out(what, 0, 15)) {
            return -2;
        }
        int mask = 0;
        for (int i = 0; i < 4; i++) {
            mask += ship.dead[i] ? 1 << i : 0;
        }
        return new int[] {text.length(), ship.wants.size(), ship.fields.size(), mask, ship.mode, ship.clock,
            ship.missed, ship.crossings, ship.safe, ship.run, ship.top, ship.band, ship.gain, ship.coil,
            past.size(), sights.size()}[what];
    }
}
