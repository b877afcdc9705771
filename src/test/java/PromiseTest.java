import java.util.function.IntFunction;

/** Each promise by hand: ordinary inputs, the edges that the document names, and wrong inputs. */
public final class PromiseTest {
    /** One train of length one cell and four times: 100, 0, -100, 0 at its own cell. */
    private static final String LANE = "tank width 4 height 1 fade 0;train 0 0 100 100 4 90 0 9999";
    /** Two trains against each other, which extinguish in the middle column. */
    private static final String PAIR = "tank width 5 height 3 fade 0;train 0 1 100 100 4 0 0 9999"
            + ";train 4 1 100 100 4 180 0 9999";
    /** A wall in the middle with rows 0 and 2 open, its only train at (0, 1). */
    private static final String WALLED = "tank width 5 height 3 fade 0 wall 2"
            + ";train 0 1 100 100 4 90 0 9999;slit 0 0;slit 2 2";
    /** A square train that is everywhere 100 or -100 from the time of arrival on. */
    private static final String SQUARE = "tank width 3 height 2 fade 0"
            + ";train 0 0 100 9999 2 0 0 9999;shape 0 square";
    private static final int[] WRONG = {Integer.MIN_VALUE, -1, Integer.MAX_VALUE};

    private final Bench b = new Bench();

    public static void main(String[] args) {
        PromiseTest test = new PromiseTest();
        test.input();
        test.loadedTank();
        test.sources();
        test.angles();
        test.paths();
        test.arrivals();
        test.waves();
        test.images();
        test.gauges();
        test.nodes();
        test.energies();
        test.fringes();
        test.texts();
        test.whatIf();
        test.changes();
        test.undoing();
        test.saving();
        test.withoutTank();
        test.order();
        test.b.end();
    }

    private void index(String what, IntFunction<Object> call, int... wrong) {
        refuse(what, Bench.INDEX, call, wrong);
    }

    private void argument(String what, IntFunction<Object> call, int... wrong) {
        refuse(what, Bench.ARGUMENT, call, wrong);
    }

    private void refuse(String what, String name, IntFunction<Object> call, int... wrong) {
        for (int value : wrong) {
            b.refused(what + " of " + value, name, () -> call.apply(value));
        }
        for (int value : WRONG) {
            b.refused(what + " of " + value, name, () -> call.apply(value));
        }
    }

    // ---- promises 1 to 6

    private void input() {
        RippleTank t = new RippleTank();
        b.same("1 buffered", t.buffered(), 0);
        b.same("1 sources", t.sources(), 0);
        b.same("4 no load yet", t.parseError(), 0);
        b.same("5 no load yet", t.errorPosition(), RippleTank.NONE);
        for (int i = 1; i <= 45; i++) {
            b.same("2 append " + i, t.append(-1, 0, 1, 2, 3), 20 * i);
        }
        b.same("2 a full buffer", t.append(0, 0, 0, 0, 0), RippleTank.NONE);
        b.same("6 full", t.buffered(), 900);
        index("3 n", n -> t.load(n), 901);
        b.same("6 stays", t.buffered(), 900);
        b.same("4 stays", t.parseError(), 0);
        b.same("5 stays", t.errorPosition(), RippleTank.NONE);
        b.refused("3 bytes that start no token", Bench.ARGUMENT, () -> t.load(900));
        b.same("4 after it", t.parseError(), 1);
        b.same("5 after it", t.errorPosition(), 0);
        b.same("6 emptied by an error", t.buffered(), 0);
        Bench.append(t, LANE + ";;;;");
        b.same("3 sources", t.load(LANE.length()), 1);
        b.same("6 emptied by a success", t.buffered(), 0);
        b.same("4 after a success", t.parseError(), 0);
        b.same("5 after a success", t.errorPosition(), RippleTank.NONE);
        t.advance(5);
        b.refused("3 an empty text", Bench.ARGUMENT, () -> t.load(0));
        b.same("3 the previous tank stays", t.time(), 5);
        b.same("3 its changes stay", t.undoable(), 1);
        t.save(1);
        Bench.load(t, PAIR);
        b.same("3 the time is 0", t.time(), 0);
        b.same("3 nothing can be undone", t.undoable(), 0);
        b.refused("3 no state is saved", Bench.STATE, () -> t.restore(1));
        b.same("3 replaces", t.width(), 5);
    }

    // ---- promises 7 to 13

    private void loadedTank() {
        RippleTank t = Bench.loaded(WALLED);
        b.same("7 time", t.time(), 0);
        t.advance(7);
        b.same("7 later", t.time(), 7);
        b.same("8 width", t.width(), 5);
        b.same("9 height", t.height(), 3);
        b.same("10 wall", t.wall(), 2);
        b.same("11 open rows", t.openRows(), 5);
        b.same("12 row 0", t.isOpen(0), true);
        b.same("12 row 1", t.isOpen(1), false);
        b.same("12 row 2", t.isOpen(2), true);
        index("12 row", r -> t.isOpen(r), 3, 32, 34);
        b.same("13 sources", t.sources(), 1);
        RippleTank open = Bench.loaded(PAIR);
        b.same("10 no wall", open.wall(), RippleTank.NONE);
        b.same("11 no wall", open.openRows(), 0);
        b.same("12 no wall", open.isOpen(2), false);
        index("12 row without a wall", r -> open.isOpen(r), 3);
        b.same("13 two", open.sources(), 2);
        RippleTank big = Bench.loaded("tank width 16 height 10 fade 9999 wall 0"
                + ";train 15 9 999 9999 99 359 9999 9999;slit 0 9");
        b.same("8 greatest", big.width(), 16);
        b.same("9 greatest", big.height(), 10);
        b.same("10 at 0", big.wall(), 0);
        b.same("11 all", big.openRows(), 1023);
    }

    // ---- promises 14 to 17

    private void sources() {
        RippleTank t = Bench.loaded("tank width 9 height 9 fade 0;train 4 4 60 80 7 11 3 40"
                + ";drift 0 - 99 50;train 1 2 90 70 6 12 10 30 burst 2 3"
                + ";train 0 0 100 70 6 12 10 20 rising 3;cut 1 16 16;cut 1 15 15;off 2"
            + ";train 0 0 80 70 6 12 11 30 burst 1 1");
        b.same("14 at 0", t.sourceAt(0, 0, 0), 4);
        b.same("14 towards 0", t.sourceAt(0, 0, 1), 4);
        b.same("14 column", t.sourceAt(0, 0, 4), 4 - 3);
        b.same("14 row", t.sourceAt(0, 1, 5), 4 + 2);
        b.same("14 clamped low", t.sourceAt(0, 0, 9999), 0);
        b.same("14 clamped high", t.sourceAt(0, 1, 9999), 8);
        b.same("14 at rest", t.sourceAt(1, 1, 9999), 2);
        index("14 source", s -> t.sourceAt(s, 0, 0), 4);
        argument("14 axis", a -> t.sourceAt(0, a, 0), 2);
        argument("14 t", a -> t.sourceAt(0, 0, a), 10000);
        int[] due = {60, 80, 7, 11, 3, 40};
        for (int what = 0; what < 6; what++) {
            b.same("15 property " + what, t.property(0, what), due[what]);
        }
        index("15 source", s -> t.property(s, 0), 4);
        argument("15 what", w -> t.property(0, w), 6);
        t.setAmp(0, 61);
        t.setPhase(0, 358);
        b.same("15 AMP set", t.property(0, 0), 61);
        b.same("15 PHASE set", t.property(0, 3), 358);
        b.same("16 on", t.isOn(0), true);
        b.same("16 off", t.isOn(2), false);
        index("16 source", s -> t.isOn(s), 4);
        b.same("17 before FROM", t.amplitude(0, 2), 0);
        b.same("17 at FROM", t.amplitude(0, 3), 61);
        b.same("17 at UNTIL", t.amplitude(0, 40), 61);
        b.same("17 after UNTIL", t.amplitude(0, 41), 0);
        int[] burst = {90, 90, 0, 0, 0, 0, 0, 0, 0, 0, 90, 90, 0};
        for (int i = 0; i < burst.length; i++) {
            b.same("17 burst at " + (10 + i), t.amplitude(1, 10 + i), burst[i]);
        }
        b.same("17 burst of one", t.amplitude(3, 11), 80);
        b.same("17 no burst", t.amplitude(3, 12), 0);
        b.same("17 next burst", t.amplitude(3, 13), 80);
        int[] rising = {0, 33, 66, 100, 100};
        for (int i = 0; i < rising.length; i++) {
            b.same("17 rising at " + (9 + i), t.amplitude(2, 9 + i), rising[i]);
        }
        index("17 source", s -> t.amplitude(s, 0), 4);
        argument("17 t", a -> t.amplitude(0, a), 10000);
    }

    // ---- promises 18 and 19

    private void angles() {
        RippleTank t = new RippleTank();
        int[] angles = {0, 1, 30, 45, 60, 90, 150, 179, 180, 181, 210, 270, 359};
        int[] sines = {0, 17, 500, 705, 864, 1000, 500, 17, 0, -17, -500, -1000, -17};
        for (int i = 0; i < angles.length; i++) {
            b.same("18 sine " + angles[i], t.sine(angles[i]), sines[i]);
        }
        argument("18 angle", a -> t.sine(a), 360);
        b.same("19 none", t.distance(0, 0), 0);
        b.same("19 row", t.distance(15, 0), 1500);
        b.same("19 column", t.distance(0, 9), 900);
        b.same("19 rounded down", t.distance(1, 1), 141);
        b.same("19 root of three tens", t.distance(1, 3), 316);
        b.same("19 exact", t.distance(3, 4), 500);
        b.same("19 far", t.distance(15, 9), 1749);
        argument("19 dx", d -> t.distance(d, 0), 16);
        argument("19 dy", d -> t.distance(0, d), 10);
    }

    // ---- promises 20 to 23

    private void paths() {
        RippleTank t = Bench.loaded(WALLED);
        b.same("20 this side", t.isBehind(0, 1, 2), false);
        b.same("20 on the wall", t.isBehind(0, 2, 0), false);
        b.same("20 behind", t.isBehind(0, 3, 1), true);
        index("20 source", s -> t.isBehind(s, 0, 0), 1);
        index("20 x", x -> t.isBehind(0, x, 0), 5);
        index("20 y", y -> t.isBehind(0, 0, y), 3);
        b.same("21 through an open row", t.path(0, 4, 1, 0), 223 + 223);
        b.same("21 through a closed row", t.path(0, 4, 1, 1), 400);
        b.same("21 this side", t.path(0, 0, 1, 1), 400);
        b.same("21 no wall", Bench.loaded(PAIR).path(0, 0, 0, 2), RippleTank.NONE);
        index("21 source", s -> t.path(s, 0, 0, 0), 1);
        index("21 x", x -> t.path(0, x, 0, 0), 5);
        index("21 y", y -> t.path(0, 0, y, 0), 3);
        index("21 row", r -> t.path(0, 0, 0, r), 3);
        index("21 row without a wall", r -> Bench.loaded(PAIR).path(0, 0, 0, r), 3);
        b.same("22 this side", t.shortest(0, 1, 2), 141);
        b.same("22 itself", t.shortest(0, 0, 1), 0);
        b.same("22 behind, the smaller one", t.shortest(0, 3, 2), 223 + 100);
        b.same("22 an open row of the wall", t.shortest(0, 2, 0), 223);
        b.same("22 a closed row of the wall", t.shortest(0, 2, 1), RippleTank.NONE);
        index("22 source", s -> t.shortest(s, 0, 0), 1);
        index("22 x", x -> t.shortest(0, x, 0), 5);
        index("22 y", y -> t.shortest(0, 0, y), 3);
        b.same("23 itself", t.phase(0, 0, 1), 90);
        b.same("23 this side", t.phase(0, 1, 2), (90 - 507 + 720) % 360);
        b.same("23 behind", t.phase(0, 3, 2), (90 - 1162 + 1440) % 360);
        b.same("23 a closed row of the wall", t.phase(0, 2, 1), RippleTank.NONE);
        t.advance(3);
        b.same("23 later", t.phase(0, 0, 1), 0);
        index("23 source", s -> t.phase(s, 0, 0), 1);
        index("23 x", x -> t.phase(0, x, 0), 5);
        index("23 y", y -> t.phase(0, 0, y), 3);
        t.turnRow(0);
        t.turnRow(2);
        b.same("22 all rows closed", t.shortest(0, 3, 1), RippleTank.NONE);
        b.same("23 all rows closed", t.phase(0, 3, 1), RippleTank.NONE);
        t.moveSource(0, 2, 1);
        b.same("20 from the wall", t.isBehind(0, 4, 1), false);
        b.same("22 from the wall", t.shortest(0, 4, 1), 200);
        b.same("22 at a closed row itself", t.shortest(0, 2, 1), RippleTank.NONE);
        RippleTank sevenths = Bench.loaded("tank width 2 height 1 fade 0;train 0 0 9 70 7 5 0 9");
        sevenths.advance(1);
        b.same("23 two quotients", sevenths.phase(0, 1, 0), 5 + 51 - 514 + 720);
    }

    // ---- promises 24 and 25

    private void arrivals() {
        RippleTank t = Bench.loaded("tank width 5 height 3 fade 0 wall 2"
                + ";train 0 1 100 70 4 90 5 9;slit 0 0;off 0");
        b.same("24 itself", t.arrival(0, 0, 1), 5);
        b.same("24 delay rounded down", t.arrival(0, 1, 1), 5 + 5);
        b.same("24 diagonal", t.arrival(0, 1, 2), 5 + 8);
        b.same("24 behind", t.arrival(0, 3, 0), 5 + 18);
        b.same("24 a closed row of the wall", t.arrival(0, 2, 1), RippleTank.NONE);
        index("24 source", s -> t.arrival(s, 0, 0), 1);
        index("24 x", x -> t.arrival(0, x, 0), 5);
        index("24 y", y -> t.arrival(0, 0, y), 3);
        b.same("25 before FROM", t.reached(0), 0);
        t.advance(5);
        b.same("25 itself, even if off", t.reached(0), 1);
        t.advance(4);
        b.same("25 before the next ones", t.reached(0), 1);
        t.advance(1);
        b.same("25 three neighbours", t.reached(0), 4);
        t.advance(900);
        b.same("25 all but closed rows", t.reached(0), 13);
        t.turnRow(0);
        b.same("25 nothing behind", t.reached(0), 6);
        index("25 source", s -> t.reached(s), 1);
        t.moveSource(0, 3, 0);
        b.same("24 by where it is now", t.arrival(0, 3, 0), 5);
    }

    // ---- promises 26 to 29

    private void waves() {
        RippleTank t = Bench.loaded(LANE);
        int[] own = {100, 0, -100, 0};
        for (int i = 0; i < 12; i++) {
            b.same("28 itself at " + i, t.waveAt(0, 0, i), own[i % 4]);
            b.same("28 one cell on at " + i, t.waveAt(1, 0, i), i < 4 ? 0 : own[i % 4]);
        }
        b.same("28 the last time", t.waveAt(0, 0, 9999), 0);
        index("28 x", x -> t.waveAt(x, 0, 0), 4);
        index("28 y", y -> t.waveAt(0, y, 0), 1);
        argument("28 t", a -> t.waveAt(0, 0, a), 10000);
        b.same("29 at once", t.quietIn(1, 0, 0, 3), 0);
        t.advance(4);
        b.same("27 now", t.wave(1, 0), 100);
        b.same("29 after one", t.quietIn(1, 0, 99, 200), 1);
        b.same("29 loud enough", t.quietIn(1, 0, 100, 1), 0);
        argument("29 tolerance", a -> t.quietIn(0, 0, a, 1), 10000);
        argument("29 n", n -> t.quietIn(0, 0, 0, n), 0, 201);
        index("29 x", x -> t.quietIn(x, 0, 0, 1), 4);
        index("29 y", y -> t.quietIn(0, y, 0, 1), 1);
        index("27 x", x -> t.wave(x, 0), 4);
        index("27 y", y -> t.wave(0, y), 1);
        b.same("26 part", t.part(0, 1, 0), 100);
        t.setOn(0, false);
        b.same("26 off", t.part(0, 1, 0), 0);
        b.same("27 off", t.wave(1, 0), 0);
        index("26 source", s -> t.part(s, 0, 0), 1);
        index("26 x", x -> t.part(0, x, 0), 4);
        index("26 y", y -> t.part(0, 0, y), 1);
        RippleTank slow = Bench.loaded("tank width 1 height 1 fade 0;train 0 0 9 50 80 0 0 9"
                + ";shape 0 square");
        b.same("29 just too few steps", slow.quietIn(0, 0, 8, 9), RippleTank.NONE);
        b.same("29 just enough steps", slow.quietIn(0, 0, 8, 10), 10);
        RippleTank loud = Bench.loaded(SQUARE);
        b.same("29 never", loud.quietIn(0, 0, 99, 200), RippleTank.NONE);
        b.same("26 saw", Bench.loaded(LANE + ";shape 0 saw").part(0, 0, 0), -50);
        b.same("26 square", Bench.loaded(SQUARE + ";off 0").part(0, 0, 0), 0);
        RippleTank last = Bench.loaded("tank width 1 height 1 fade 0;train 0 0 5 50 2 0 0 9990"
                + ";shape 0 square");
        for (int i = 0; i < 10; i++) {
            last.advance(999);
        }
        b.same("29 looks beyond 9999", last.quietIn(0, 0, 4, 200), 1);
        b.same("28 shoals only for waves", shoal().waveAt(0, 0, 0), 100 * 33 / 100 * 50 / 100);
        b.same("26 no shoals for parts", shoal().part(0, 0, 0), 100);
        b.same("27 outside the shoals", shoal().wave(1, 0), 0);
        b.same("27 fade", Bench.loaded("tank width 3 height 1 fade 100"
                + ";train 0 0 99 100 2 90 0 9").waveAt(2, 0, 4), 99 * 100 / 300);
        b.same("27 the strongest fade", Bench.loaded("tank width 3 height 1 fade 1"
                + ";train 0 0 999 100 2 90 0 9").waveAt(1, 0, 2), 999 / 101);
        b.same("27 a small amplitude", Bench.loaded(LANE.replace("100 100 4", "1 100 4"))
                .wave(0, 0), 1);
        walledWaves();
    }

    private RippleTank shoal() {
        return Bench.loaded(LANE + ";shoal 0 0 0 0 33;shoal 0 0 1 0 50");
    }

    private void walledWaves() {
        RippleTank t = Bench.loaded("tank width 3 height 3 fade 0 wall 1"
                + ";train 0 0 101 100 2 90 0 0;slit 0 2");
        b.same("26 one of three rows, towards 0", t.part(0, 2, 0), 0);
        t.advance(4);
        b.same("26 through row 0", t.part(0, 2, 0), 101 / 3);
        t.turnRow(2);
        b.same("26 two open rows", t.part(0, 2, 0), 101 / 2);
        t.turnRow(0);
        t.turnRow(1);
        b.same("26 no open row", t.part(0, 2, 0), 0);
        b.same("26 on a closed row", t.part(0, 1, 0), 0);
        RippleTank drifting = Bench.loaded("tank width 4 height 1 fade 0"
                + ";train 0 0 100 100 4 90 0 9999;drift 0 50 0");
        drifting.advance(2);
        b.same("26 from where it is at the time", drifting.part(0, 1, 0), -100);
        b.same("28 from where it will be", drifting.waveAt(2, 0, 4), 100);
    }

    private void images() {
        String one = "tank width 2 height 2 fade 0;train 0 0 100 100 2 90 0 9999";
        b.same("26 left", Bench.loaded(one + ";mirror left 51").waveAt(0, 0, 2), 100 + 51);
        b.same("26 top", Bench.loaded(one + ";mirror top 7").waveAt(0, 0, 2), 100 + 7);
        RippleTank right = Bench.loaded(one + ";mirror right 50");
        b.same("26 right, early", right.waveAt(0, 0, 4), 100);
        b.same("26 right", right.waveAt(0, 0, 6), 150);
        RippleTank bottom = Bench.loaded(one + ";mirror bottom 50");
        b.same("26 bottom, early", bottom.waveAt(0, 0, 4), 100);
        b.same("26 bottom", bottom.waveAt(0, 0, 6), 150);
        b.same("26 one percent", Bench.loaded(one + ";mirror left 1").waveAt(0, 0, 2), 101);
        // In each of these the image is farther from its source than from the cell.
        String inside = "tank width 5 height 4 fade 0;train 1 2 100 100 2 90 0 0;mirror ";
        b.same("26 left of column 1", Bench.loaded(inside + "left 40").waveAt(2, 2, 8), 40);
        b.same("26 right of column 1", Bench.loaded(inside + "right 40").waveAt(2, 2, 12), 40);
        b.same("26 top of row 2", Bench.loaded(inside + "top 40").waveAt(1, 1, 8), 40);
        b.same("26 bottom of row 2", Bench.loaded(inside + "bottom 40").waveAt(1, 1, 8), 40);
        b.same("26 towards 0", Bench.loaded(one.replace("100 100", "3 100") + ";mirror left 50")
                .waveAt(0, 0, 3), -3 - 1);
        b.same("22 no images", right.shortest(0, 1, 0), 100);
        RippleTank walled = Bench.loaded("tank width 3 height 1 fade 0 wall 1"
                + ";train 0 0 100 100 2 90 0 9999;slit 0 0;mirror left 100");
        b.same("26 no images behind the wall", walled.waveAt(2, 0, 80), 100);
        b.same("26 images on the wall", walled.waveAt(1, 0, 80), 200);
        walled.turnRow(0);
        b.same("26 none at a closed row", walled.waveAt(1, 0, 80), 0);
    }

    // ---- promises 30 to 34

    private void gauges() {
        RippleTank t = Bench.loaded(LANE + ";gauge 3 0;gauge 0 0");
        b.same("30 gauges", t.gauges(), 2);
        b.same("30 none", Bench.loaded(LANE).gauges(), 0);
        b.same("31 column", t.gaugeAt(0, 0), 3);
        b.same("31 row", t.gaugeAt(0, 1), 0);
        b.same("31 the second one", t.gaugeAt(1, 0), 0);
        index("31 gauge", g -> t.gaugeAt(g, 0), 2);
        argument("31 axis", a -> t.gaugeAt(0, a), 2);
        b.same("32 not yet", t.peak(0, 12), 0);
        b.same("32 just", t.peak(0, 13), 100);
        t.advance(1);
        b.same("32 negative", t.peak(1, 2), 100);
        index("32 gauge", g -> t.peak(g, 1), 2);
        argument("32 n", n -> t.peak(0, n), 0, 41);
        b.same("33 one", t.crossings(1, 2), 0);
        b.same("33 next", t.crossings(1, 4), 1);
        b.same("33 many", t.crossings(1, 40), 19);
        index("33 gauge", g -> t.crossings(g, 1), 2);
        argument("33 n", n -> t.crossings(0, n), 0, 41);
        b.same("34 a period", t.rhythm(1, 40), 4);
        b.same("34 all sums 0", t.rhythm(0, 1), 1);
        index("34 gauge", g -> t.rhythm(g, 1), 2);
        argument("34 n", n -> t.rhythm(0, n), 0, 41);
        RippleTank swing = Bench.loaded(SQUARE.replace("100 9999", "999 9999") + ";gauge 0 0");
        b.same("34 the smallest of several", swing.rhythm(0, 40), 2);
        RippleTank loud = Bench.loaded("tank width 1 height 1 fade 0"
                + ";train 0 0 999 9999 30 0 0 9999;train 0 0 999 9999 30 0 0 9999"
                + ";train 0 0 999 9999 30 0 0 9999;train 0 0 999 9999 30 0 0 9999"
                + ";shape 0 square;shape 1 square;shape 2 square;shape 3 square;gauge 0 0"
                + ";shoal 0 0 0 0 200;shoal 0 0 0 0 200;shoal 0 0 0 0 200");
        b.same("34 sums beyond int", loud.rhythm(0, 10), 1);
        b.same("32 loud", loud.peak(0, 1), 999 * 32);
        RippleTank late = Bench.loaded("tank width 1 height 1 fade 0;train 0 0 9 50 40 90 19 20"
                + ";train 0 0 9 50 40 270 0 0;gauge 0 0;shape 0 square;shape 1 square");
        b.same("33 zeros are left out", late.crossings(0, 21), 0);
        late.setPhase(0, 270);
        b.same("33 a change past zeros", late.crossings(0, 20), 1);
        b.same("33 not yet", late.crossings(0, 19), 0);
        RippleTank twenty = Bench.loaded("tank width 1 height 1 fade 0;train 0 0 9 50 40 0 0 0"
                + ";train 0 0 9 50 40 180 20 20;gauge 0 0;shape 0 square;shape 1 square");
        b.same("34 the greatest lag", twenty.rhythm(0, 1), 20);
        b.same("39 energies beyond int", loud.energy(0, 0, 40), 999L * 32 * 999 * 32 * 40);
    }

    // ---- promises 35 to 38

    private void nodes() {
        RippleTank t = Bench.loaded(PAIR);
        t.advance(40);
        b.same("35 extinguished", t.isNode(2, 1, 40, 0), true);
        b.same("35 not", t.isNode(0, 0, 40, 0), false);
        b.same("35 tolerance", t.isNode(0, 0, 40, 200), true);
        b.same("37 middle", t.nodeRows(1, 40, 0) >> 2 & 1, 1);
        index("35 x", x -> t.isNode(x, 0, 1, 0), 5);
        index("35 y", y -> t.isNode(0, y, 1, 0), 3);
        argument("35 n", n -> t.isNode(0, 0, n, 0), 0, 41);
        argument("35 tolerance", a -> t.isNode(0, 0, 1, a), 10000);
        argument("36 n", n -> t.nodes(n, 0), 0, 41);
        argument("36 tolerance", a -> t.nodes(1, a), 10000);
        index("37 row", y -> t.nodeRows(y, 1, 0), 3);
        argument("37 n", n -> t.nodeRows(0, n, 0), 0, 41);
        argument("37 tolerance", a -> t.nodeRows(0, 1, a), 10000);
        argument("38 n", n -> t.nodeGroups(n, 0), 0, 41);
        argument("38 tolerance", a -> t.nodeGroups(1, a), 10000);
        RippleTank lane = Bench.loaded(LANE);
        b.same("36 at first", lane.nodes(1, 0), 3);
        b.same("36 for four", lane.nodes(4, 0), 3);
        b.same("36 for five", lane.nodes(5, 0), 2);
        b.same("36 for five, loud", lane.nodes(5, 100), 4);
        b.same("36 for five, nearly", lane.nodes(5, 99), 2);
        b.same("37 for five", lane.nodeRows(0, 5, 0), 12);
        b.same("35 at the tolerance", lane.isNode(0, 0, 1, 100), true);
        b.same("35 above the tolerance", lane.isNode(0, 0, 1, 99), false);
        lane.advance(2);
        b.same("35 negative waves", lane.isNode(0, 0, 1, 99), false);
        groups();
    }

    /** Shoals of 0 percent are nodes in a tank that is loud elsewhere. */
    private void groups() {
        String loud = "tank width 3 height 3 fade 0;train 1 1 100 9999 2 0 0 9999;shape 0 square";
        b.same("38 none", Bench.loaded(loud).nodeGroups(1, 0), 0);
        b.same("38 all", Bench.loaded(loud).nodeGroups(1, 100), 1);
        RippleTank apart = Bench.loaded(loud + ";shoal 0 0 0 0 0;shoal 1 1 1 1 0;shoal 2 0 2 0 0");
        b.same("36 three", apart.nodes(9, 0), 3);
        b.same("37 its row", apart.nodeRows(0, 9, 0), 5);
        b.same("38 corners do not connect", apart.nodeGroups(9, 0), 3);
        RippleTank bent = Bench.loaded(loud + ";shoal 0 0 2 0 0;shoal 2 0 2 2 0;shoal 0 2 0 2 0");
        b.same("36 six", bent.nodes(9, 0), 6);
        b.same("38 a bend and a corner", bent.nodeGroups(9, 0), 2);
        RippleTank ring = Bench.loaded(loud + ";shoal 0 0 0 2 0;shoal 2 0 2 2 0;shoal 0 2 2 2 0");
        b.same("38 joined at the end", ring.nodeGroups(9, 0), 1);
        RippleTank rows = Bench.loaded(loud + ";shoal 2 0 2 0 0;shoal 0 1 0 1 0");
        b.same("38 the end of a row and the next row's start", rows.nodeGroups(9, 0), 2);
        RippleTank wide = Bench.loaded("tank width 16 height 10 fade 0;train 0 0 1 50 2 0 9999 9999");
        b.same("36 160", wide.nodes(40, 0), 160);
        b.same("38 160", wide.nodeGroups(40, 0), 1);
        b.same("37 16", wide.nodeRows(9, 40, 0), 65535);
    }

    // ---- promises 39 to 44

    private void energies() {
        RippleTank t = Bench.loaded(LANE);
        b.same("39 one time", t.energy(0, 0, 1), 10000);
        b.same("39 four times", t.energy(0, 0, 4), 20000);
        b.same("39 next cell", t.energy(1, 0, 5), 10000);
        t.advance(1);
        b.same("39 from now on", t.energy(0, 0, 1), 0);
        index("39 x", x -> t.energy(x, 0, 1), 4);
        index("39 y", y -> t.energy(0, y, 1), 1);
        argument("39 n", n -> t.energy(0, 0, n), 0, 41);
        // The first row has 100, 50 and 0, the second one 100, 25 and 100.
        RippleTank s = Bench.loaded(SQUARE + ";shoal 1 0 1 1 50;shoal 2 0 2 0 0;shoal 1 1 1 1 50");
        b.same("40 first row", s.rowEnergy(0, 2), 2 * (10000 + 2500));
        b.same("40 second row", s.rowEnergy(1, 1), 10000 + 625 + 10000);
        index("40 row", y -> s.rowEnergy(y, 1), 2);
        argument("40 n", n -> s.rowEnergy(0, n), 0, 41);
        b.same("41 all", s.allEnergy(3), 3 * (12500 + 20625));
        argument("41 n", n -> s.allEnergy(n), 0, 41);
        int[] ranks = {0, 3, 5, 1, 4, 2};
        for (int rank = 0; rank < 6; rank++) {
            b.same("42 rank " + rank, s.strongest(rank, 2), ranks[rank]);
        }
        index("42 rank", r -> s.strongest(r, 1), 6);
        argument("42 n", n -> s.strongest(0, n), 0, 41);
        b.same("43 the greatest", s.marks(2, 100), 3);
        b.same("43 just not", s.marks(2, 26), 3);
        b.same("43 just", s.marks(2, 25), 4);
        b.same("43 all above 0", s.marks(2, 1), 5);
        argument("43 n", n -> s.marks(n, 1), 0, 41);
        argument("43 share", a -> s.marks(1, a), 0, 101);
        b.same("44 greatest", s.isMark(0, 0, 1, 100), true);
        b.same("44 a quarter", s.isMark(1, 0, 1, 25), true);
        b.same("44 less", s.isMark(1, 0, 1, 26), false);
        b.same("44 none", s.isMark(2, 0, 1, 1), false);
        index("44 x", x -> s.isMark(x, 0, 1, 1), 3);
        index("44 y", y -> s.isMark(0, y, 1, 1), 2);
        argument("44 n", n -> s.isMark(0, 0, n, 1), 0, 41);
        argument("44 share", a -> s.isMark(0, 0, 1, a), 0, 101);
        s.setOn(0, false);
        b.same("43 no energy at all", s.marks(40, 1), 0);
        b.same("44 no energy at all", s.isMark(0, 0, 40, 1), false);
        b.same("42 ties", s.strongest(5, 1), 5);
    }

    // ---- promises 45 and 46

    private void fringes() {
        String tall = "tank width 2 height 5 fade 0;train 0 0 100 9999 2 0 0 9999;shape 0 square";
        RippleTank t = Bench.loaded(tall + ";shoal 0 1 0 1 50;shoal 0 3 0 3 30");
        b.same("45 both ends and the middle", t.fringes(0, 4), 3);
        b.same("45 equal neighbours", t.fringes(1, 4), 0);
        b.same("45 one row", Bench.loaded(LANE).fringes(3, 1), 1);
        b.same("45 at the ends", Bench.loaded(tall + ";shoal 0 1 0 4 50").fringes(0, 1), 1);
        index("45 x", x -> t.fringes(x, 1), 2);
        argument("45 n", n -> t.fringes(0, n), 0, 41);
        b.same("46 clear", t.visibility(0, 1), 9100f / 10900f);
        b.same("46 all alike", t.visibility(1, 40), 0f);
        b.same("46 nothing", Bench.loaded(LANE).visibility(3, 1), 0f);
        b.same("46 one row", Bench.loaded(LANE).visibility(0, 1), 0f);
        b.same("46 full", Bench.loaded(tall + ";shoal 0 4 0 4 0").visibility(0, 1), 1f);
        index("46 x", x -> t.visibility(x, 1), 2);
        argument("46 n", n -> t.visibility(0, n), 0, 41);
        RippleTank loud = Bench.loaded("tank width 1 height 2 fade 0"
                + ";train 0 0 999 9999 2 0 0 9999;shape 0 square;shoal 0 0 0 0 67;shoal 0 1 0 1 200");
        long most = 1998L * 1998 * 40;
        long least = 669L * 669 * 40;
        b.same("46 sums as longs", loud.visibility(0, 40),
                (float) (most - least) / (float) (most + least));
    }

    // ---- promises 47 to 49

    private void texts() {
        RippleTank t = Bench.loaded(LANE + ";train 3 0 999 100 2 270 0 9999");
        index("49 no text", i -> t.textByte(i), 0);
        b.same("47 length", t.writeRow(0), "100,0,0,-999".length());
        b.same("47 row", Bench.textOf(t, 12), "100,0,0,-999");
        index("49 end", i -> t.textByte(i), 12);
        index("47 row", y -> t.writeRow(y), 1);
        b.same("49 stays after a refusal", t.textByte(0), (int) '1');
        t.advance(1);
        b.same("49 stays after a change", Bench.textOf(t, 12), "100,0,0,-999");
        t.undo();
        t.setOn(1, false);
        b.same("47 shorter", t.writeRow(0), 9);
        b.same("47 later", Bench.textOf(t, 9), "100,0,0,0");
        index("49 shorter end", i -> t.textByte(i), 9);
        argument("48 n", n -> t.writeMap(n), 0, 41);
        b.same("48 length", t.writeMap(1), 4);
        b.same("48 row", Bench.textOf(t, 4), "9000");
        RippleTank s = Bench.loaded(SQUARE + ";shoal 1 0 1 1 50;shoal 2 0 2 0 0;shoal 1 1 1 1 90");
        b.same("48 length of two rows", s.writeMap(40), 7);
        b.same("48 rows", Bench.textOf(s, 7), "920;919");
        b.refused("49 load", Bench.ARGUMENT, () -> s.load(0));
        Bench.load(s, LANE);
        b.same("49 stays after load", Bench.textOf(s, 7), "920;919");
        s.setOn(0, false);
        b.same("48 nothing", s.writeMap(1), 4);
        b.same("48 zeros", Bench.textOf(s, 4), "0000");
        RippleTank big = Bench.loaded("tank width 16 height 10 fade 0;train 0 0 1 50 2 0 9999 9999");
        b.same("48 the longest", big.writeMap(1), 169);
        b.same("48 its last byte", big.textByte(168), (int) '0');
        b.same("47 zeros", big.writeRow(9), 31);
    }

    // ---- promises 50 to 54

    private void whatIf() {
        RippleTank t = Bench.loaded(PAIR);
        t.advance(40);
        b.same("50 without the first", t.nodesIfOff(0, 4, 0), t.nodesIfOff(1, 4, 0));
        b.same("50 changes nothing", t.isOn(0), true);
        index("50 source", s -> t.nodesIfOff(s, 1, 0), 2);
        argument("50 n", n -> t.nodesIfOff(0, n, 0), 0, 41);
        argument("50 tolerance", a -> t.nodesIfOff(0, 1, a), 10000);
        b.same("50 alone", Bench.loaded(LANE).nodesIfOff(0, 40, 0), 4);
        b.same("51 against", t.bestPhase(1, 2, 1, 4), 180);
        b.same("51 against, too", t.bestPhase(0, 2, 1, 4), 0);
        b.same("51 changes nothing", t.property(0, 3), 0);
        t.setPhase(0, 160);
        b.same("51 the nearest multiple", t.bestPhase(1, 2, 1, 40), 345);
        t.undo();
        b.same("51 of several the smallest", Bench.loaded(LANE).bestPhase(0, 1, 0, 4), 0);
        index("51 source", s -> t.bestPhase(s, 0, 0, 1), 2);
        index("51 x", x -> t.bestPhase(0, x, 0, 1), 5);
        index("51 y", y -> t.bestPhase(0, 0, y, 1), 3);
        argument("51 n", n -> t.bestPhase(0, 0, 0, n), 0, 41);
        RippleTank lane = Bench.loaded(LANE + ";train 3 0 100 100 4 270 0 9999");
        b.same("52 where it is extinguished", lane.bestPlace(1, 0, 0, 4), 0);
        b.same("52 out of the way", Bench.loaded(LANE).bestPlace(0, 0, 0, 4), 1);
        b.same("52 the other end", Bench.loaded(LANE.replace("train 0", "train 3"))
                .bestPlace(0, 0, 0, 12), 3);
        RippleTank drifting = Bench.loaded(LANE + ";drift 0 99 0");
        drifting.advance(200);
        b.same("52 with its drift", drifting.bestPlace(0, 0, 0, 1), 0);
        b.same("52 changes nothing", drifting.sourceAt(0, 0, 0), 0);
        b.same("52 rows, too", Bench.loaded(SQUARE.replace("9999 2 0 0 9999", "50 9 0 0 0"))
                .bestPlace(0, 0, 0, 1), 1);
        index("52 source", s -> t.bestPlace(s, 0, 0, 1), 2);
        index("52 x", x -> t.bestPlace(0, x, 0, 1), 5);
        index("52 y", y -> t.bestPlace(0, 0, y, 1), 3);
        argument("52 n", n -> t.bestPlace(0, 0, 0, n), 0, 41);
        turnedRows(t);
    }

    private void turnedRows(RippleTank open) {
        RippleTank t = Bench.loaded("tank width 3 height 3 fade 0 wall 1"
                + ";train 0 0 100 100 2 90 0 9999;slit 0 0;slit 2 2");
        t.advance(4);
        b.same("53 closed instead of open", t.energyIfTurned(2, 0, 2, 1), 10000);
        b.same("53 open instead of closed", t.energyIfTurned(2, 0, 1, 1), 33 * 33);
        b.same("53 the cell of the row itself", t.energyIfTurned(1, 0, 0, 1), 0);
        b.same("53 changes nothing", t.openRows(), 5);
        b.same("53 no wall", open.energyIfTurned(0, 0, 2, 40), -1);
        index("53 x", x -> t.energyIfTurned(x, 0, 0, 1), 3);
        index("53 y", y -> t.energyIfTurned(0, y, 0, 1), 3);
        index("53 row", r -> t.energyIfTurned(0, 0, r, 1), 3);
        index("53 row without a wall", r -> open.energyIfTurned(0, 0, r, 1), 3);
        argument("53 n", n -> t.energyIfTurned(0, 0, 0, n), 0, 41);
        argument("53 n without a wall", n -> open.energyIfTurned(0, 0, 0, n), 0, 41);
        b.same("54 the loudest", t.bestRow(2, 0, 1), 2);
        b.same("54 of several the smallest", t.bestRow(0, 0, 40), 0);
        b.same("54 all 0", t.bestRow(1, 1, 1) == 1, true);
        t.setOn(0, false);
        b.same("54 nothing anywhere", t.bestRow(2, 2, 40), 0);
        b.same("54 no wall", open.bestRow(0, 0, 1), RippleTank.NONE);
        index("54 x", x -> t.bestRow(x, 0, 1), 3);
        index("54 y", y -> t.bestRow(0, y, 1), 3);
        argument("54 n", n -> t.bestRow(0, 0, n), 0, 41);
        argument("54 n without a wall", n -> open.bestRow(0, 0, n), 0, 41);
    }

    // ---- promises 55 to 61

    private void changes() {
        RippleTank t = Bench.loaded(WALLED);
        b.same("55 one", t.advance(1), 1);
        b.same("55 the most", t.advance(999), 1000);
        argument("55 n", n -> t.advance(n), 0, 1000);
        for (int i = 2; i <= 9; i++) {
            t.advance(999);
        }
        b.same("55 so far", t.time(), 8992);
        t.advance(997);
        b.same("55 up to 9999", t.advance(10), 9999);
        b.refused("55 beyond", Bench.ARGUMENT, () -> t.advance(1));
        b.same("55 refused", t.time(), 9999);
        b.same("56 was on", t.setOn(0, false), true);
        b.same("56 was off", t.setOn(0, false), false);
        b.same("56 is off", t.isOn(0), false);
        b.same("56 was off again", t.setOn(0, true), false);
        b.same("56 is on", t.isOn(0), true);
        index("56 source", s -> t.setOn(s, true), 1);
        b.same("57 before", t.setPhase(0, 359), 90);
        b.same("57 after", t.setPhase(0, 0), 359);
        index("57 source", s -> t.setPhase(s, 0), 1);
        argument("57 phase", p -> t.setPhase(0, p), 360);
        b.same("58 before", t.setAmp(0, 999), 100);
        b.same("58 after", t.setAmp(0, 1), 999);
        index("58 source", s -> t.setAmp(s, 1), 1);
        argument("58 amp", a -> t.setAmp(0, a), 0, 1000);
        b.same("59 place", t.moveSource(0, 4, 2), 14);
        b.same("59 column", t.sourceAt(0, 0, 0), 4);
        b.same("59 row", t.sourceAt(0, 1, 0), 2);
        index("59 source", s -> t.moveSource(s, 0, 0), 1);
        index("59 x", x -> t.moveSource(0, x, 0), 5);
        index("59 y", y -> t.moveSource(0, 0, y), 3);
        drifts();
        RippleTank w = Bench.loaded(WALLED);
        b.same("61 opens", w.turnRow(1), true);
        b.same("61 open", w.openRows(), 7);
        b.same("61 closes", w.turnRow(0), false);
        b.same("61 closed", w.openRows(), 6);
        index("61 row", r -> w.turnRow(r), 3);
        b.refused("61 no wall", Bench.STATE, () -> Bench.loaded(PAIR).turnRow(9));
    }

    private void drifts() {
        RippleTank t = Bench.loaded(PAIR);
        b.same("60 at first", t.setDrift(0, 99, -99), 5);
        b.same("60 later column", t.sourceAt(0, 0, 102), 4);
        b.same("60 later row", t.sourceAt(0, 1, 102), 0);
        t.advance(102);
        b.same("60 now", t.setDrift(0, 2, 1), 2 + 2 * 5);
        b.same("60 back", t.setDrift(1, -99, 99), 10);
        b.same("59 with the drift", t.moveSource(0, 0, 0), 2 + 5);
        index("60 source", s -> t.setDrift(s, 0, 0), 2);
        for (int wrong : new int[] {-100, 100, Integer.MIN_VALUE, Integer.MAX_VALUE}) {
            b.refused("60 vx", Bench.ARGUMENT, () -> t.setDrift(0, wrong, 0));
            b.refused("60 vy", Bench.ARGUMENT, () -> t.setDrift(0, 0, wrong));
        }
    }

    // ---- promises 62 and 63

    private void undoing() {
        RippleTank t = Bench.loaded(WALLED);
        b.same("63 none", t.undoable(), 0);
        b.refused("62 none", Bench.STATE, () -> t.undo());
        t.advance(3);
        t.setOn(0, true);
        t.setPhase(0, 1);
        t.setAmp(0, 2);
        t.moveSource(0, 3, 2);
        t.setDrift(0, 5, -6);
        t.turnRow(1);
        b.same("63 seven", t.undoable(), 7);
        b.refused("63 refusals are no changes", Bench.ARGUMENT, () -> t.advance(0));
        b.same("63 still seven", t.undoable(), 7);
        b.same("62 turnRow", t.undo(), 6);
        b.same("62 closed again", t.openRows(), 5);
        b.same("62 setDrift", t.undo(), 5);
        b.same("62 at rest again", t.sourceAt(0, 0, 100), 3);
        b.same("62 moveSource", t.undo(), 4);
        b.same("62 back again", t.sourceAt(0, 1, 0) * 5 + t.sourceAt(0, 0, 0), 5);
        b.same("62 setAmp", t.undo(), 3);
        b.same("62 AMP again", t.property(0, 0), 100);
        b.same("62 setPhase", t.undo(), 2);
        b.same("62 PHASE again", t.property(0, 3), 90);
        b.same("62 setOn, though nothing changed", t.undo(), 1);
        b.same("62 advance", t.undo(), 0);
        b.same("62 time again", t.time(), 0);
        b.refused("62 no more", Bench.STATE, () -> t.undo());
        for (int i = 1; i <= 11; i++) {
            t.advance(1);
            b.same("63 at most 8", t.undoable(), Math.min(i, 8));
        }
        t.undo();
        t.undo();
        b.same("62 the latest first", t.time(), 9);
        t.advance(20);
        b.same("63 again", t.undoable(), 7);
        for (int i = 6; i >= 0; i--) {
            b.same("62 down", t.undo(), i);
        }
        b.same("62 the oldest that is kept", t.time(), 3);
    }

    // ---- promises 64 and 65

    private void saving() {
        RippleTank t = Bench.loaded(WALLED);
        b.refused("65 nothing saved", Bench.STATE, () -> t.restore(0));
        t.advance(4);
        t.setAmp(0, 7);
        b.same("64 time", t.save(0), 4);
        b.same("63 saving is no change", t.undoable(), 2);
        b.refused("65 the other slot", Bench.STATE, () -> t.restore(1));
        t.turnRow(1);
        t.setOn(0, false);
        t.setPhase(0, 3);
        t.setDrift(0, 9, 9);
        t.moveSource(0, 1, 1);
        t.advance(6);
        b.same("64 the second slot", t.save(1), 10);
        b.same("65 first", t.restore(0), 4);
        b.same("65 nothing can be undone", t.undoable(), 0);
        b.same("65 rows", t.openRows(), 5);
        b.same("65 on", t.isOn(0), true);
        b.same("65 AMP", t.property(0, 0), 7);
        b.same("65 PHASE", t.property(0, 3), 90);
        b.same("65 place and drift", t.sourceAt(0, 0, 9999), 0);
        t.setAmp(0, 8);
        b.same("65 second", t.restore(1), 10);
        b.same("65 off", t.isOn(0), false);
        b.same("65 rows of the second", t.openRows(), 7);
        b.same("65 stays saved", t.restore(0), 4);
        b.same("65 as it was", t.property(0, 0), 7);
        t.advance(1);
        b.same("64 in place of it", t.save(0), 5);
        b.same("65 the new one", t.restore(0), 5);
        index("64 slot", s -> t.save(s), 2);
        index("65 slot", s -> t.restore(s), 2);
        Bench.append(t, "tank");
        b.refused("65 a failed load", Bench.ARGUMENT, () -> t.load(4));
        b.same("65 leaves the slots", t.restore(1), 10);
    }

    // ---- what every promise says of an object without a tank

    private void withoutTank() {
        RippleTank t = new RippleTank();
        b.same("7 no tank", t.time(), 0);
        b.same("8 no tank", t.width(), 0);
        b.same("9 no tank", t.height(), 0);
        b.same("13 no tank", t.sources(), 0);
        b.same("30 no tank", t.gauges(), 0);
        b.same("63 no tank", t.undoable(), 0);
        index("49 no tank", i -> t.textByte(i), 0);
        index("65 no such slot", s -> t.restore(s), 2);
        Bench.Call[] calls = {() -> t.wall(), () -> t.openRows(), () -> t.isOpen(-1),
            () -> t.sourceAt(-1, -1, -1), () -> t.property(-1, -1), () -> t.isOn(-1),
            () -> t.amplitude(-1, -1), () -> t.isBehind(-1, -1, -1), () -> t.path(-1, -1, -1, -1),
            () -> t.shortest(-1, -1, -1), () -> t.phase(-1, -1, -1), () -> t.arrival(-1, -1, -1),
            () -> t.reached(-1), () -> t.part(-1, -1, -1), () -> t.wave(-1, -1),
            () -> t.waveAt(-1, -1, -1), () -> t.quietIn(-1, -1, -1, -1), () -> t.gaugeAt(-1, -1),
            () -> t.peak(-1, -1), () -> t.crossings(-1, -1), () -> t.rhythm(-1, -1),
            () -> t.isNode(-1, -1, -1, -1), () -> t.nodes(-1, -1), () -> t.nodeRows(-1, -1, -1),
            () -> t.nodeGroups(-1, -1), () -> t.energy(-1, -1, -1), () -> t.rowEnergy(-1, -1),
            () -> t.allEnergy(-1), () -> t.strongest(-1, -1), () -> t.marks(-1, -1),
            () -> t.isMark(-1, -1, -1, -1), () -> t.fringes(-1, -1), () -> t.visibility(-1, -1),
            () -> t.writeRow(-1), () -> t.writeMap(-1), () -> t.nodesIfOff(-1, -1, -1),
            () -> t.bestPhase(-1, -1, -1, -1), () -> t.bestPlace(-1, -1, -1, -1),
            () -> t.energyIfTurned(-1, -1, -1, -1), () -> t.bestRow(-1, -1, -1),
            () -> t.advance(-1), () -> t.setOn(-1, true), () -> t.setPhase(-1, -1),
            () -> t.setAmp(-1, -1), () -> t.moveSource(-1, -1, -1), () -> t.setDrift(-1, 100, 100),
            () -> t.turnRow(-1), () -> t.undo(), () -> t.save(-1), () -> t.restore(0)};
        for (int i = 0; i < calls.length; i++) {
            b.refused("no tank, call " + i, Bench.STATE, calls[i]);
        }
    }

    // ---- section 7: of several exceptions the one that is listed first

    private void order() {
        RippleTank t = Bench.loaded(WALLED + ";gauge 0 0");
        Bench.Call[] calls = {() -> t.sourceAt(1, 9, -1), () -> t.property(1, 9),
            () -> t.amplitude(1, -1), () -> t.waveAt(5, 0, -1), () -> t.quietIn(0, 3, -1, 0),
            () -> t.gaugeAt(1, 9), () -> t.peak(1, 0), () -> t.crossings(1, 0),
            () -> t.rhythm(1, 0), () -> t.isNode(0, 3, 0, -1), () -> t.nodeRows(3, 0, -1),
            () -> t.energy(5, 0, 0), () -> t.rowEnergy(3, 0), () -> t.strongest(15, 0),
            () -> t.isMark(5, 0, 0, 0), () -> t.fringes(5, 0), () -> t.visibility(5, 0),
            () -> t.nodesIfOff(1, 0, -1), () -> t.bestPhase(0, 0, 3, 0),
            () -> t.bestPlace(0, 5, 0, 0), () -> t.energyIfTurned(0, 0, 3, 0),
            () -> t.bestRow(0, 3, 0), () -> t.setPhase(1, -1), () -> t.setAmp(1, 0),
            () -> t.setDrift(1, 100, 100)};
        for (int i = 0; i < calls.length; i++) {
            b.refused("index before argument, call " + i, Bench.INDEX, calls[i]);
        }
        b.same("refusals change nothing", t.undoable(), 0);
    }
}
