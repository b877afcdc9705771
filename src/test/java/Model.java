import java.util.ArrayList;
import java.util.HashSet;
import java.util.List;
import java.util.Set;

/**
 * The document, written down a second time in the plainest way and without any care for speed, so
 * that ModelTest can compare the answers. It shares no code with RippleTank.
 */
public final class Model {
    private static final class Fault extends RuntimeException {
        private static final long serialVersionUID = 1;
        final int code;
        final int position;

        Fault(int code, int position) {
            this.code = code;
            this.position = position;
        }
    }

    private static final class Source implements Cloneable {
        long x, y, amp, length, period, phase, from, until, vx, vy;
        long burstOn, burstOff, rise;
        boolean on = true;
        String shape = "sine";
        List<long[]> cuts = new ArrayList<>();

        Source copy() {
            try {
                return (Source) clone();
            } catch (CloneNotSupportedException e) {
                throw new AssertionError(e);
            }
        }
    }

    private static final class World {
        long width, height, fade, wall = -1, time;
        Set<Long> open = new HashSet<>();
        List<Source> sources = new ArrayList<>();
        long left, right, top, bottom;
        List<long[]> shoals = new ArrayList<>();
        List<long[]> gauges = new ArrayList<>();

        World copy() {
            World w = new World();
            w.width = width;
            w.height = height;
            w.fade = fade;
            w.wall = wall;
            w.time = time;
            w.open = new HashSet<>(open);
            for (Source s : sources) {
                w.sources.add(s.copy());
            }
            w.left = left;
            w.right = right;
            w.top = top;
            w.bottom = bottom;
            w.shoals = shoals;
            w.gauges = gauges;
            return w;
        }
    }

    private final List<Integer> buffer = new ArrayList<>();
    private World world;
    private List<World> past = new ArrayList<>();
    private World[] saved = new World[2];
    private int code;
    private int position = -1;
    private String page = "";

    // ---- parsing

    private static final class Reader {
        final String text;
        final List<String> words = new ArrayList<>();
        final List<Integer> places = new ArrayList<>();
        int at;
        World w = new World();

        Reader(String text) {
            this.text = text;
            int i = 0;
            while (i < text.length()) {
                int j = i + 1;
                char c = text.charAt(i);
                if (c == ' ') {
                    i++;
                    continue;
                }
                String run = c >= 'a' && c <= 'z' ? "[a-z]" : c >= '0' && c <= '9' ? "[0-9]" : "";
                while (!run.isEmpty() && j < text.length()
                        && String.valueOf(text.charAt(j)).matches(run)) {
                    j++;
                }
                words.add(text.substring(i, j));
                places.add(i);
                i = j;
            }
            words.add("");
            places.add(text.length());
        }

        String peek() {
            return words.get(at);
        }

        int place() {
            return places.get(at);
        }

        Fault fault(int code) {
            return new Fault(code, place());
        }

        void expect(String word) {
            if (!peek().equals(word)) {
                throw fault(1);
            }
            at++;
        }

        boolean accept(String word) {
            if (peek().equals(word)) {
                at++;
                return true;
            }
            return false;
        }

        long number(long low, long high) {
            if (!peek().matches("[0-9]{1,4}")) {
                throw fault(1);
            }
            long n = Long.parseLong(peek());
            if (n < low || n > high) {
                throw fault(2);
            }
            at++;
            return n;
        }

        long signed() {
            long sign = accept("-") ? -1 : 1;
            return sign * number(0, 99);
        }

        int source(Set<Long> told) {
            int place = place();
            long n = number(0, w.sources.size() - 1);
            if (told.contains(n)) {
                throw new Fault(3, place);
            }
            told.add(n);
            return (int) n;
        }

        World read() {
            expect("tank");
            expect("width");
            w.width = number(1, 16);
            expect("height");
            w.height = number(1, 10);
            expect("fade");
            w.fade = number(0, 9999);
            if (accept("wall")) {
                w.wall = number(0, w.width - 1);
            }
            Set<Long> drifts = new HashSet<>();
            Set<Long> offs = new HashSet<>();
            Set<Long> shapes = new HashSet<>();
            int[] cuts = new int[1];
            while (!peek().isEmpty()) {
                expect(";");
                line(drifts, offs, shapes, cuts);
            }
            if (w.sources.isEmpty()) {
                throw fault(5);
            }
            return w;
        }

        void line(Set<Long> drifts, Set<Long> offs, Set<Long> shapes, int[] cuts) {
            String word = peek();
            boolean full = word.equals("train") && w.sources.size() == 4
                    || word.equals("cut") && cuts[0] == 6
                    || word.equals("shoal") && w.shoals.size() == 3
                    || word.equals("gauge") && w.gauges.size() == 4;
            if (full) {
                throw fault(4);
            }
            if (accept("train")) {
                train();
            } else if (accept("drift")) {
                Source s = w.sources.get(source(drifts));
                s.vx = signed();
                s.vy = signed();
            } else if (accept("slit")) {
                long high = w.wall < 0 ? -1 : w.height - 1;
                long first = number(0, high);
                long last = number(first, high);
                for (long row = first; row <= last; row++) {
                    w.open.add(row);
                }
            } else if (accept("off")) {
                w.sources.get(source(offs)).on = false;
            } else if (accept("mirror")) {
                mirror();
            } else if (accept("cut")) {
                Source s = w.sources.get(source(new HashSet<>()));
                long from = number(0, 9999);
                s.cuts.add(new long[] {from, number(from, 9999)});
                cuts[0]++;
            } else if (accept("shape")) {
                Source s = w.sources.get(source(shapes));
                if (!peek().equals("square") && !peek().equals("saw")) {
                    throw fault(1);
                }
                s.shape = peek();
                at++;
            } else if (accept("shoal")) {
                long x = number(0, w.width - 1);
                long y = number(0, w.height - 1);
                long toX = number(x, w.width - 1);
                long toY = number(y, w.height - 1);
                w.shoals.add(new long[] {x, y, toX, toY, number(0, 200)});
            } else if (accept("gauge")) {
                w.gauges.add(new long[] {number(0, w.width - 1), number(0, w.height - 1)});
            } else {
                throw fault(1);
            }
        }

        void train() {
            Source s = new Source();
            s.x = number(0, w.width - 1);
            s.y = number(0, w.height - 1);
            s.amp = number(1, 999);
            s.length = number(50, 9999);
            s.period = number(2, 99);
            s.phase = number(0, 359);
            s.from = number(0, 9999);
            s.until = number(s.from, 9999);
            if (accept("burst")) {
                s.burstOn = number(1, 99);
                s.burstOff = number(1, 99);
            } else if (accept("rising")) {
                s.rise = number(1, 99);
            }
            w.sources.add(s);
        }

        void mirror() {
            String side = peek();
            long told;
            switch (side) {
                case "left": told = w.left; break;
                case "right": told = w.right; break;
                case "top": told = w.top; break;
                case "bottom": told = w.bottom; break;
                default: throw fault(1);
            }
            if (told != 0) {
                throw fault(3);
            }
            at++;
            long percent = number(1, 100);
            switch (side) {
                case "left": w.left = percent; break;
                case "right": w.right = percent; break;
                case "top": w.top = percent; break;
                default: w.bottom = percent;
            }
        }
    }

    // ---- the physics of the document

    private static long down(long a, long b) {
        return Math.floorDiv(a, b);
    }

    private static long towardsZero(long a, long b) {
        return Long.signum(a) * (Math.abs(a) / b);
    }

    private static long far(long x, long y, long toX, long toY) {
        return (long) Math.floor(Math.sqrt(
                10000.0 * ((x - toX) * (x - toX) + (y - toY) * (y - toY))));
    }

    private static long[] placeOf(World w, Source s, long t) {
        long x = s.x + towardsZero(s.vx * t, 100);
        long y = s.y + towardsZero(s.vy * t, 100);
        x = x < 0 ? 0 : x >= w.width ? w.width - 1 : x;
        y = y < 0 ? 0 : y >= w.height ? w.height - 1 : y;
        return new long[] {x, y};
    }

    private static boolean behind(World w, Source s, long x, long t) {
        long at = placeOf(w, s, t)[0];
        return w.wall >= 0 && Math.min(at, x) < w.wall && Math.max(at, x) > w.wall;
    }

    private static boolean dead(World w, long x, long y) {
        return x == w.wall && !w.open.contains(y);
    }

    private static long through(World w, Source s, long x, long y, long row, long t) {
        long[] at = placeOf(w, s, t);
        return far(at[0], at[1], w.wall, row) + far(w.wall, row, x, y);
    }

    /** Lengths of the real paths, by rows. */
    private static List<Long> ways(World w, Source s, long x, long y, long t) {
        List<Long> all = new ArrayList<>();
        long[] at = placeOf(w, s, t);
        if (dead(w, x, y)) {
            return all;
        }
        if (!behind(w, s, x, t)) {
            all.add(far(at[0], at[1], x, y));
            return all;
        }
        for (long row = 0; row < w.height; row++) {
            if (w.open.contains(row)) {
                all.add(through(w, s, x, y, row, t));
            }
        }
        return all;
    }

    private static long emits(Source s, long e) {
        if (e < s.from || e > s.until) {
            return 0;
        }
        for (long[] cut : s.cuts) {
            if (e >= cut[0] && e <= cut[1]) {
                return 0;
            }
        }
        if (s.burstOn > 0) {
            return (e - s.from) % (s.burstOn + s.burstOff) < s.burstOn ? s.amp : 0;
        }
        if (s.rise > 0) {
            long k = Math.min(e - s.from + 1, s.rise);
            return down(s.amp * k, s.rise);
        }
        return s.amp;
    }

    private static long sin(long a) {
        if (a >= 180) {
            return -sin(a - 180);
        }
        return down(4000 * a * (180 - a), 40500 - a * (180 - a));
    }

    private static long angle(Source s, long p, long t) {
        return Math.floorMod(s.phase + down(360 * t, s.period) - down(360 * p, s.length), 360L);
    }

    private static long valueAt(Source s, long angle) {
        switch (s.shape) {
            case "square": return angle < 180 ? 1000 : -1000;
            case "saw": return down(angle * 1000, 180) - 1000;
            default: return sin(angle);
        }
    }

    private static long delay(Source s, long p) {
        return down(p * s.period, s.length);
    }

    private static long brings(World w, Source s, long p, long t) {
        long a = emits(s, t - delay(s, p));
        if (w.fade != 0) {
            a = down(a * w.fade, w.fade + p);
        }
        return towardsZero(a * valueAt(s, angle(s, p, t)), 1000);
    }

    private static long partOf(World w, Source s, long x, long y, long t) {
        List<Long> ways = ways(w, s, x, y, t);
        if (!s.on || ways.isEmpty()) {
            return 0;
        }
        long sum = 0;
        for (long p : ways) {
            sum += brings(w, s, p, t);
        }
        if (behind(w, s, x, t)) {
            return towardsZero(sum, w.open.size());
        }
        long[] at = placeOf(w, s, t);
        sum += image(w, s, w.left, far(-1 - at[0], at[1], x, y), t);
        sum += image(w, s, w.right, far(2 * w.width - 1 - at[0], at[1], x, y), t);
        sum += image(w, s, w.top, far(at[0], -1 - at[1], x, y), t);
        sum += image(w, s, w.bottom, far(at[0], 2 * w.height - 1 - at[1], x, y), t);
        return sum;
    }

    private static long image(World w, Source s, long percent, long p, long t) {
        return percent == 0 ? 0 : towardsZero(brings(w, s, p, t) * percent, 100);
    }

    private static long waveOf(World w, long x, long y, long t) {
        long sum = 0;
        for (Source s : w.sources) {
            sum += partOf(w, s, x, y, t);
        }
        for (long[] shoal : w.shoals) {
            if (x >= shoal[0] && y >= shoal[1] && x <= shoal[2] && y <= shoal[3]) {
                sum = towardsZero(sum * shoal[4], 100);
            }
        }
        return sum;
    }

    private static boolean calm(World w, long x, long y, int n, int tolerance) {
        for (long t = w.time; t < w.time + n; t++) {
            if (Math.abs(waveOf(w, x, y, t)) > tolerance) {
                return false;
            }
        }
        return true;
    }

    private static long energyOf(World w, long x, long y, int n) {
        long sum = 0;
        for (long t = w.time; t < w.time + n; t++) {
            sum += waveOf(w, x, y, t) * waveOf(w, x, y, t);
        }
        return sum;
    }

    private long[] energies(int n) {
        long[] all = new long[(int) (world.width * world.height)];
        for (int i = 0; i < all.length; i++) {
            all[i] = energyOf(world, i % world.width, i / world.width, n);
        }
        return all;
    }

    private static long greatest(long[] all) {
        long greatest = 0;
        for (long one : all) {
            greatest = Math.max(greatest, one);
        }
        return greatest;
    }

    // ---- refusals

    private void tank() {
        if (world == null) {
            throw new IllegalStateException();
        }
    }

    private static void index(long i, long count) {
        if (i < 0 || i >= count) {
            throw new IndexOutOfBoundsException();
        }
    }

    private Source source(int source) {
        index(source, world.sources.size());
        return world.sources.get(source);
    }

    private void cell(int x, int y) {
        index(x, world.width);
        index(y, world.height);
    }

    private static void range(long v, long low, long high) {
        if (v < low || v > high) {
            throw new IllegalArgumentException();
        }
    }

    // ---- the face

    public int append(int a, int b, int c, int d, int e) {
        if (buffer.size() + 20 > 900) {
            return -1;
        }
        for (int v : new int[] {a, b, c, d, e}) {
            buffer.add(v >> 24 & 255);
            buffer.add(v >> 16 & 255);
            buffer.add(v >> 8 & 255);
            buffer.add(v & 255);
        }
        return buffer.size();
    }

    public int load(int n) {
        index(n, buffer.size() + 1);
        StringBuilder text = new StringBuilder();
        for (int i = 0; i < n; i++) {
            text.append((char) (int) buffer.get(i));
        }
        buffer.clear();
        try {
            world = new Reader(text.toString()).read();
        } catch (Fault fault) {
            code = fault.code;
            position = fault.position;
            throw new IllegalArgumentException();
        }
        code = 0;
        position = -1;
        past = new ArrayList<>();
        saved = new World[2];
        return world.sources.size();
    }

    public int parseError() {
        return code;
    }

    public int errorPosition() {
        return position;
    }

    public int buffered() {
        return buffer.size();
    }

    public int time() {
        return world == null ? 0 : (int) world.time;
    }

    public int width() {
        return world == null ? 0 : (int) world.width;
    }

    public int height() {
        return world == null ? 0 : (int) world.height;
    }

    public int wall() {
        tank();
        return (int) world.wall;
    }

    public int openRows() {
        tank();
        int bits = 0;
        for (long row : world.open) {
            bits += 1 << row;
        }
        return bits;
    }

    public boolean isOpen(int row) {
        tank();
        index(row, world.height);
        return world.open.contains((long) row);
    }

    public int sources() {
        return world == null ? 0 : world.sources.size();
    }

    public int sourceAt(int source, int axis, int t) {
        tank();
        Source s = source(source);
        range(axis, 0, 1);
        range(t, 0, 9999);
        return (int) placeOf(world, s, t)[axis];
    }

    public int property(int source, int what) {
        tank();
        Source s = source(source);
        range(what, 0, 5);
        return (int) new long[] {s.amp, s.length, s.period, s.phase, s.from, s.until}[what];
    }

    public boolean isOn(int source) {
        tank();
        return source(source).on;
    }

    public int amplitude(int source, int t) {
        tank();
        Source s = source(source);
        range(t, 0, 9999);
        return (int) emits(s, t);
    }

    public int sine(int angle) {
        range(angle, 0, 359);
        return (int) sin(angle);
    }

    public int distance(int dx, int dy) {
        range(dx, 0, 15);
        range(dy, 0, 9);
        return (int) far(0, 0, dx, dy);
    }

    public boolean isBehind(int source, int x, int y) {
        tank();
        Source s = source(source);
        cell(x, y);
        return behind(world, s, x, world.time);
    }

    public int path(int source, int x, int y, int row) {
        tank();
        Source s = source(source);
        cell(x, y);
        index(row, world.height);
        return world.wall < 0 ? -1 : (int) through(world, s, x, y, row, world.time);
    }

    private long least(Source s, int x, int y) {
        long least = -1;
        for (long p : ways(world, s, x, y, world.time)) {
            least = least < 0 || p < least ? p : least;
        }
        return least;
    }

    public int shortest(int source, int x, int y) {
        tank();
        Source s = source(source);
        cell(x, y);
        return (int) least(s, x, y);
    }

    public int phase(int source, int x, int y) {
        tank();
        Source s = source(source);
        cell(x, y);
        long p = least(s, x, y);
        return p < 0 ? -1 : (int) angle(s, p, world.time);
    }

    public int arrival(int source, int x, int y) {
        tank();
        Source s = source(source);
        cell(x, y);
        long p = least(s, x, y);
        return p < 0 ? -1 : (int) (s.from + delay(s, p));
    }

    public int reached(int source) {
        tank();
        Source s = source(source);
        int count = 0;
        for (int x = 0; x < world.width; x++) {
            for (int y = 0; y < world.height; y++) {
                if (least(s, x, y) >= 0 && s.from + delay(s, least(s, x, y)) <= world.time) {
                    count++;
                }
            }
        }
        return count;
    }

    public int part(int source, int x, int y) {
        tank();
        Source s = source(source);
        cell(x, y);
        return (int) partOf(world, s, x, y, world.time);
    }

    public int wave(int x, int y) {
        tank();
        cell(x, y);
        return (int) waveOf(world, x, y, world.time);
    }

    public int waveAt(int x, int y, int t) {
        tank();
        cell(x, y);
        range(t, 0, 9999);
        return (int) waveOf(world, x, y, t);
    }

    public int quietIn(int x, int y, int tolerance, int n) {
        tank();
        cell(x, y);
        range(tolerance, 0, 9999);
        range(n, 1, 200);
        int steps = 0;
        while (steps <= n && Math.abs(waveOf(world, x, y, world.time + steps)) > tolerance) {
            steps++;
        }
        return steps > n ? -1 : steps;
    }

    public int gauges() {
        return world == null ? 0 : world.gauges.size();
    }

    private long[] gauge(int gauge) {
        index(gauge, world.gauges.size());
        return world.gauges.get(gauge);
    }

    public int gaugeAt(int gauge, int axis) {
        tank();
        long[] at = gauge(gauge);
        range(axis, 0, 1);
        return (int) at[axis];
    }

    private long at(long[] gauge, int after) {
        return waveOf(world, gauge[0], gauge[1], world.time + after);
    }

    public int peak(int gauge, int n) {
        tank();
        long[] g = gauge(gauge);
        range(n, 1, 40);
        long most = 0;
        for (int i = 0; i < n; i++) {
            most = Math.max(most, Math.abs(at(g, i)));
        }
        return (int) most;
    }

    public int crossings(int gauge, int n) {
        tank();
        long[] g = gauge(gauge);
        range(n, 1, 40);
        List<Integer> signs = new ArrayList<>();
        for (int i = 0; i < n; i++) {
            if (at(g, i) != 0) {
                signs.add(Long.signum(at(g, i)));
            }
        }
        int count = 0;
        for (int i = 1; i < signs.size(); i++) {
            count += signs.get(i).equals(signs.get(i - 1)) ? 0 : 1;
        }
        return count;
    }

    public int rhythm(int gauge, int n) {
        tank();
        long[] g = gauge(gauge);
        range(n, 1, 40);
        int best = 0;
        long most = Long.MIN_VALUE;
        for (int lag = 1; lag <= 20; lag++) {
            long sum = 0;
            for (int i = 0; i < n; i++) {
                sum += at(g, i) * at(g, i + lag);
            }
            if (sum > most) {
                most = sum;
                best = lag;
            }
        }
        return best;
    }

    public boolean isNode(int x, int y, int n, int tolerance) {
        tank();
        cell(x, y);
        range(n, 1, 40);
        range(tolerance, 0, 9999);
        return calm(world, x, y, n, tolerance);
    }

    private static int count(World w, int n, int tolerance) {
        int count = 0;
        for (int i = 0; i < w.width * w.height; i++) {
            count += calm(w, i % w.width, i / w.width, n, tolerance) ? 1 : 0;
        }
        return count;
    }

    public int nodes(int n, int tolerance) {
        tank();
        range(n, 1, 40);
        range(tolerance, 0, 9999);
        return count(world, n, tolerance);
    }

    public int nodeRows(int y, int n, int tolerance) {
        tank();
        index(y, world.height);
        range(n, 1, 40);
        range(tolerance, 0, 9999);
        int bits = 0;
        for (int x = 0; x < world.width; x++) {
            bits += calm(world, x, y, n, tolerance) ? 1 << x : 0;
        }
        return bits;
    }

    public int nodeGroups(int n, int tolerance) {
        tank();
        range(n, 1, 40);
        range(tolerance, 0, 9999);
        int width = (int) world.width;
        int cells = width * (int) world.height;
        int[] label = new int[cells];
        for (int i = 0; i < cells; i++) {
            label[i] = calm(world, i % width, i / width, n, tolerance) ? i : -1;
        }
        for (int round = 0; round < cells; round++) {
            for (int i = 0; i < cells; i++) {
                if (i % width > 0) {
                    join(label, i, i - 1);
                }
                if (i >= width) {
                    join(label, i, i - width);
                }
            }
        }
        Set<Integer> groups = new HashSet<>();
        for (int one : label) {
            groups.add(one);
        }
        groups.remove(-1);
        return groups.size();
    }

    private static void join(int[] label, int i, int j) {
        if (label[i] >= 0 && label[j] >= 0) {
            label[i] = Math.min(label[i], label[j]);
            label[j] = label[i];
        }
    }

    public long energy(int x, int y, int n) {
        tank();
        cell(x, y);
        range(n, 1, 40);
        return energyOf(world, x, y, n);
    }

    public long rowEnergy(int y, int n) {
        tank();
        index(y, world.height);
        range(n, 1, 40);
        long sum = 0;
        for (int x = 0; x < world.width; x++) {
            sum += energyOf(world, x, y, n);
        }
        return sum;
    }

    public long allEnergy(int n) {
        tank();
        range(n, 1, 40);
        long sum = 0;
        for (long one : energies(n)) {
            sum += one;
        }
        return sum;
    }

    public int strongest(int rank, int n) {
        tank();
        index(rank, world.width * world.height);
        range(n, 1, 40);
        long[] all = energies(n);
        List<Integer> cells = new ArrayList<>();
        for (int i = 0; i < all.length; i++) {
            cells.add(i);
        }
        cells.sort((a, b) -> all[a] != all[b] ? Long.compare(all[b], all[a]) : a - b);
        return cells.get(rank);
    }

    public int marks(int n, int share) {
        tank();
        range(n, 1, 40);
        range(share, 1, 100);
        long[] all = energies(n);
        int count = 0;
        for (long one : all) {
            count += one > 0 && 100 * one >= share * greatest(all) ? 1 : 0;
        }
        return count;
    }

    public boolean isMark(int x, int y, int n, int share) {
        tank();
        cell(x, y);
        range(n, 1, 40);
        range(share, 1, 100);
        long own = energyOf(world, x, y, n);
        return own > 0 && 100 * own >= share * greatest(energies(n));
    }

    public int fringes(int x, int n) {
        tank();
        index(x, world.width);
        range(n, 1, 40);
        int count = 0;
        for (int y = 0; y < world.height; y++) {
            boolean more = true;
            for (int other = y - 1; other <= y + 1; other += 2) {
                if (other >= 0 && other < world.height) {
                    more &= energyOf(world, x, y, n) > energyOf(world, x, other, n);
                }
            }
            count += more ? 1 : 0;
        }
        return count;
    }

    public float visibility(int x, int n) {
        tank();
        index(x, world.width);
        range(n, 1, 40);
        long a = Long.MIN_VALUE;
        long b = Long.MAX_VALUE;
        for (int y = 0; y < world.height; y++) {
            a = Math.max(a, energyOf(world, x, y, n));
            b = Math.min(b, energyOf(world, x, y, n));
        }
        return a == 0 && b == 0 ? 0f : (float) (a - b) / (float) (a + b);
    }

    public int writeRow(int y) {
        tank();
        index(y, world.height);
        List<String> waves = new ArrayList<>();
        for (int x = 0; x < world.width; x++) {
            waves.add(Long.toString(waveOf(world, x, y, world.time)));
        }
        page = String.join(",", waves);
        return page.length();
    }

    public int writeMap(int n) {
        tank();
        range(n, 1, 40);
        long[] all = energies(n);
        StringBuilder text = new StringBuilder();
        for (int i = 0; i < all.length; i++) {
            text.append(i > 0 && i % world.width == 0 ? ";" : "");
            text.append(greatest(all) == 0 ? 0 : 9 * all[i] / greatest(all));
        }
        page = text.toString();
        return page.length();
    }

    public int textByte(int i) {
        index(i, page.length());
        return page.charAt(i);
    }

    public int nodesIfOff(int source, int n, int tolerance) {
        tank();
        source(source);
        range(n, 1, 40);
        range(tolerance, 0, 9999);
        World other = world.copy();
        other.sources.get(source).on = false;
        return count(other, n, tolerance);
    }

    public int bestPhase(int source, int x, int y, int n) {
        tank();
        source(source);
        cell(x, y);
        range(n, 1, 40);
        int best = -1;
        long least = Long.MAX_VALUE;
        for (int phase = 0; phase <= 345; phase += 15) {
            World other = world.copy();
            other.sources.get(source).phase = phase;
            if (energyOf(other, x, y, n) < least) {
                least = energyOf(other, x, y, n);
                best = phase;
            }
        }
        return best;
    }

    public int bestPlace(int source, int x, int y, int n) {
        tank();
        source(source);
        cell(x, y);
        range(n, 1, 40);
        int best = -1;
        long least = Long.MAX_VALUE;
        for (int i = 0; i < world.width * world.height; i++) {
            World other = world.copy();
            other.sources.get(source).x = i % world.width;
            other.sources.get(source).y = i / world.width;
            if (energyOf(other, x, y, n) < least) {
                least = energyOf(other, x, y, n);
                best = i;
            }
        }
        return best;
    }

    public long energyIfTurned(int x, int y, int row, int n) {
        tank();
        cell(x, y);
        index(row, world.height);
        range(n, 1, 40);
        if (world.wall < 0) {
            return -1;
        }
        World other = world.copy();
        flip(other, row);
        return energyOf(other, x, y, n);
    }

    private static void flip(World w, long row) {
        if (!w.open.remove(row)) {
            w.open.add(row);
        }
    }

    public int bestRow(int x, int y, int n) {
        tank();
        cell(x, y);
        range(n, 1, 40);
        if (world.wall < 0) {
            return -1;
        }
        int best = 0;
        for (int row = 1; row < world.height; row++) {
            if (energyIfTurned(x, y, row, n) > energyIfTurned(x, y, best, n)) {
                best = row;
            }
        }
        return best;
    }

    private void change() {
        past.add(world.copy());
        if (past.size() > 8) {
            past.remove(0);
        }
    }

    private int here(Source s) {
        long[] at = placeOf(world, s, world.time);
        return (int) (at[1] * world.width + at[0]);
    }

    public int advance(int n) {
        tank();
        range(n, 1, 999);
        range(world.time + n, 0, 9999);
        change();
        world.time += n;
        return (int) world.time;
    }

    public boolean setOn(int source, boolean on) {
        tank();
        Source s = source(source);
        change();
        boolean before = s.on;
        s.on = on;
        return before;
    }

    public int setPhase(int source, int phase) {
        tank();
        Source s = source(source);
        range(phase, 0, 359);
        change();
        long before = s.phase;
        s.phase = phase;
        return (int) before;
    }

    public int setAmp(int source, int amp) {
        tank();
        Source s = source(source);
        range(amp, 1, 999);
        change();
        long before = s.amp;
        s.amp = amp;
        return (int) before;
    }

    public int moveSource(int source, int x, int y) {
        tank();
        Source s = source(source);
        cell(x, y);
        change();
        s.x = x;
        s.y = y;
        return here(s);
    }

    public int setDrift(int source, int vx, int vy) {
        tank();
        Source s = source(source);
        range(vx, -99, 99);
        range(vy, -99, 99);
        change();
        s.vx = vx;
        s.vy = vy;
        return here(s);
    }

    public boolean turnRow(int row) {
        tank();
        if (world.wall < 0) {
            throw new IllegalStateException();
        }
        index(row, world.height);
        change();
        flip(world, row);
        return world.open.contains((long) row);
    }

    public int undo() {
        if (past.isEmpty()) {
            throw new IllegalStateException();
        }
        world = past.remove(past.size() - 1);
        return past.size();
    }

    public int undoable() {
        return past.size();
    }

    public int save(int slot) {
        tank();
        index(slot, 2);
        saved[slot] = world.copy();
        return (int) world.time;
    }

    public int restore(int slot) {
        index(slot, 2);
        if (saved[slot] == null) {
            throw new IllegalStateException();
        }
        world = saved[slot].copy();
        past = new ArrayList<>();
        return (int) world.time;
    }
}
