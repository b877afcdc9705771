/** The boundaries of promises 26 to 46 and of sections 4 and 5, sentence by sentence. */
public final class WaveBoundsTest {
    /** A train that is everywhere 100 at even times and -100 at odd ones, without a delay. */
    private static final String FLAT = "train 0 0 100 9999 2 90 0 9999;shape 0 square";
    /** One train of length one cell and four times: 100, 0, -100, 0 at its own cell. */
    private static final String LANE = "tank width 4 height 1 fade 0;train 0 0 100 100 4 90 0 9999";
    /** A flat train of 900 whose waves fade in a column: 900, 450, 300, 225, 180. */
    private static final String FADING = "tank width 1 height 5 fade 100"
            + ";train 0 0 900 9999 2 90 0 9999;shape 0 square";

    private final Bench b = new Bench();

    public static void main(String[] args) {
        WaveBoundsTest test = new WaveBoundsTest();
        test.values();
        test.fading();
        test.imageParts();
        test.delayedWaves();
        test.wavesBehindWalls();
        test.offSources();
        test.shoals();
        test.wavesAt();
        test.quietTimes();
        test.gaugeCounts();
        test.peaks();
        test.crossings();
        test.rhythms();
        test.nodes();
        test.nodesBeyondTime();
        test.nodeRows();
        test.nodeGroups();
        test.energies();
        test.energySums();
        test.ranks();
        test.marks();
        test.fringes();
        test.visibility();
        test.b.end();
    }

    private static RippleTank oneCell(String train, String lines) {
        return Bench.loaded("tank width 1 height 1 fade 0;train 0 0 " + train + lines);
    }

    /** A tank whose time is 9999. */
    private static RippleTank atTheEnd(String text) {
        RippleTank t = Bench.loaded(text);
        for (int i = 0; i < 11; i++) {
            t.advance(909);
        }
        return t;
    }

    // ---- section 4, promises 26 to 29

    private void values() {
        b.sentence("section 4", "is a * value / 1000, rounded towards 0");
        b.same("999 of 1", oneCell("1 70 5 89 0 9", "").wave(0, 0), 0);
        b.same("1000 of 1", oneCell("1 70 5 90 0 9", "").wave(0, 0), 1);
        b.same("-999 of 1", oneCell("1 70 5 269 0 9", "").wave(0, 0), 0);
        b.same("-1000 of 1", oneCell("1 70 5 270 0 9", "").wave(0, 0), -1);
        b.same("500 of 3", oneCell("3 70 5 30 0 9", "").wave(0, 0), 1);
        b.same("-500 of 3", oneCell("3 70 5 210 0 9", "").wave(0, 0), -1);
        b.same("1000 of 999", oneCell("999 70 5 90 0 9", "").wave(0, 0), 999);
        b.same("-1000 of 999", oneCell("999 70 5 270 0 9", "").wave(0, 0), -999);
        b.same("0 of 999", oneCell("999 70 5 180 0 9", "").wave(0, 0), 0);
    }

    private void fading() {
        b.sentence("section 4", "if FADE is not 0, a is multiplied by FADE and divided by FADE + p, "
                + "rounded down, before.");
        int[] fades = {0, 1, 2, 100, 900, 9999};
        int[] next = {999, 9, 19, 499, 899, 989};
        for (int i = 0; i < fades.length; i++) {
            RippleTank t = Bench.loaded("tank width 2 height 1 fade " + fades[i]
                    + ";train 0 0 999 9999 2 90 0 9999;shape 0 square");
            b.same("FADE " + fades[i] + ", itself", t.wave(0, 0), 999);
            b.same("FADE " + fades[i] + ", next", t.wave(1, 0), next[i]);
            b.same("FADE " + fades[i] + ", negative", t.waveAt(1, 0, 1), -next[i]);
        }
        // 3 fades to 1.5, and 705 of 1.5 would be 1.06.
        RippleTank before = Bench.loaded("tank width 2 height 1 fade 100;train 0 0 3 100 2 45 0 9999");
        b.same("rounded before", before.waveAt(1, 0, 2), 0);
        b.same("faded away", Bench.loaded("tank width 16 height 10 fade 1;train 0 0 999 9999 2 90 0 9"
                + ";shape 0 square").wave(15, 9), 0);
    }

    private void imageParts() {
        b.sentence("section 4", "For a path from an image this is then multiplied by PERCENT of the "
                + "mirror and divided by 100, rounded towards 0.");
        int[][] parts = {{1, 99, 0}, {1, 100, 1}, {3, 50, 1}, {200, 1, 2}, {199, 1, 1}, {999, 100, 999}};
        for (int[] part : parts) {
            RippleTank t = Bench.loaded("tank width 2 height 1 fade 0;train 0 0 " + part[0]
                    + " 9999 2 90 0 9999;shape 0 square;mirror left " + part[1]);
            b.same(part[1] + " percent of " + part[0], t.wave(0, 0), part[0] + part[2]);
            b.same(part[1] + " percent of -" + part[0], t.waveAt(0, 0, 1), -part[0] - part[2]);
        }
        b.same("each one rounded", Bench.loaded("tank width 2 height 2 fade 0;train 0 0 1 9999 2 90 0 9"
                + ";shape 0 square;mirror left 60;mirror top 60").wave(0, 0), 1);
        b.same("faded by its own way", Bench.loaded("tank width 2 height 2 fade 100"
                + ";train 0 0 800 9999 2 90 0 9;shape 0 square;mirror left 50").wave(0, 0), 800 + 200);
    }

    private void delayedWaves() {
        b.sentence("section 4", "with a as the amplitude with which the source emits at t minus the "
                + "delay;");
        RippleTank t = Bench.loaded("tank width 3 height 1 fade 0;train 0 0 100 100 4 90 0 3"
                + ";shape 0 square");
        int[] itself = {100, -100, -100, 100};
        for (int time = 0; time < 16; time++) {
            b.same("itself at " + time, t.waveAt(0, 0, time), time < 4 ? itself[time] : 0);
            b.same("a cell on at " + time, t.waveAt(1, 0, time),
                    time >= 4 && time < 8 ? itself[time - 4] : 0);
            b.same("two cells on at " + time, t.waveAt(2, 0, time),
                    time >= 8 && time < 12 ? itself[time - 8] : 0);
        }
        b.sentence("section 4", "The place of the source is that at the time t.");
        RippleTank drifting = Bench.loaded("tank width 3 height 1 fade 100"
                + ";train 0 0 800 9999 2 90 0 9999;shape 0 square;drift 0 50 0");
        int[] near = {800, -800, 400, -400, 266};
        int[] far = {266, -266, 400, -400, 800};
        for (int time = 0; time < 5; time++) {
            b.same("the first cell at " + time, drifting.waveAt(0, 0, time), near[time]);
            b.same("the last cell at " + time, drifting.waveAt(2, 0, time), far[time]);
            b.same("its part at " + time, drifting.part(0, 0, 0), near[time]);
            b.same("its wave at " + time, drifting.wave(2, 0), far[time]);
            drifting.advance(1);
        }
    }

    private void wavesBehindWalls() {
        b.sentence("section 4", "if the cell is behind the wall, it is the sum of what all paths bring, "
                + "divided by the number of open rows, rounded towards 0.");
        // In a tank of one row the fade makes 100, 66 and 50, as there are 0 to 2 cells to pass.
        String text = "tank width 3 height 3 fade 200 wall 1;train 0 0 100 9999 2 90 0 9999"
                + ";shape 0 square";
        RippleTank t = Bench.loaded(text);
        b.same("no open row", t.part(0, 2, 0), 0);
        t.turnRow(0);
        b.same("one open row", t.part(0, 2, 0), 50);
        t.turnRow(1);
        // The way through row 1 is 282 long: 100 * 200 / 482 is 41.
        b.same("two open rows, 91 / 2", t.part(0, 2, 0), 45);
        b.same("two open rows, -91 / 2", Bench.loaded(text + ";slit 0 1").waveAt(2, 0, 1), -45);
        t.turnRow(2);
        // The way through row 2 is 446 long: 100 * 200 / 646 is 30.
        b.same("three open rows, 121 / 3", t.part(0, 2, 0), 40);
        t.turnRow(0);
        b.same("rows 1 and 2, 71 / 2", t.part(0, 2, 0), 35);
        RippleTank ten = Bench.loaded("tank width 3 height 10 fade 0 wall 1;train 0 0 99 9999 2 90 0 9"
                + ";shape 0 square;slit 0 9");
        b.same("ten open rows, 990 / 10", ten.wave(2, 5), 99);
        b.same("this side", ten.wave(0, 5), 99);
        RippleTank aside = Bench.loaded("tank width 7 height 3 fade 200 wall 2;train 0 1 100 9999 2 90 0 "
                + "9999;shape 0 square;slit 0 0");
        // The ways to the wall and from there are 223 and 447 long: 100 * 200 / 870 is 22.
        b.same("a way around the corner", aside.part(0, 6, 2), 22);
        aside.moveSource(0, 6, 2);
        b.same("the same way back", aside.part(0, 0, 1), 22);
        b.sentence("section 4", "It is 0 if there is no path.");
        b.same("a closed row", t.part(0, 1, 0), 0);
        b.same("an open row", t.part(0, 1, 1), 58);
        t.turnRow(1);
        t.turnRow(2);
        b.same("all rows are closed", t.part(0, 2, 1), 0);
        b.same("all rows are closed, wave", t.wave(2, 1), 0);
        b.same("this side", t.part(0, 0, 1), 66);
    }

    private void offSources() {
        b.sentence("promise 26", "Returns what a source brings to a cell now (section 4); 0 if it is "
                + "off.");
        RippleTank t = Bench.loaded("tank width 1 height 1 fade 0;train 0 0 100 70 5 90 0 9"
                + ";train 0 0 30 70 5 90 0 9;off 1");
        b.same("on", t.part(0, 0, 0), 100);
        b.same("off", t.part(1, 0, 0), 0);
        b.same("the wave of those that are on", t.wave(0, 0), 100);
        t.setOn(1, true);
        b.same("on again", t.part(1, 0, 0), 30);
        b.same("the wave of both", t.wave(0, 0), 130);
        t.setOn(0, false);
        t.setOn(1, false);
        b.same("none", t.wave(0, 0), 0);
    }

    private void shoals() {
        b.sentence("section 4", "for each shoal that contains the cell, by numbers, it is multiplied by "
                + "PERCENT of the shoal and divided by 100, rounded towards 0.");
        String three = "tank width 2 height 1 fade 0;train 0 0 3 9999 2 90 0 9999;shape 0 square";
        b.same("50, then 200", Bench.loaded(three + ";shoal 0 0 0 0 50;shoal 0 0 0 0 200").wave(0, 0),
                2);
        b.same("200, then 50", Bench.loaded(three + ";shoal 0 0 0 0 200;shoal 0 0 0 0 50").wave(0, 0),
                3);
        b.same("negative", Bench.loaded(three + ";shoal 0 0 0 0 50").waveAt(0, 0, 1), -1);
        b.same("0 percent", Bench.loaded(three + ";shoal 0 0 0 0 0").wave(0, 0), 0);
        b.same("100 percent", Bench.loaded(three + ";shoal 0 0 0 0 100").wave(0, 0), 3);
        b.same("200 percent", Bench.loaded(three + ";shoal 0 0 0 0 200").wave(0, 0), 6);
        b.same("beside the shoal", Bench.loaded(three + ";shoal 0 0 0 0 200").wave(1, 0), 3);
        b.same("a part is without shoals", Bench.loaded(three + ";shoal 0 0 0 0 200").part(0, 0, 0), 3);
        String most = "tank width 1 height 1 fade 0" + ";train 0 0 999 9999 2 90 0 9999".repeat(4)
                + ";shape 0 square;shape 1 square;shape 2 square;shape 3 square"
                + ";mirror left 100;mirror right 100;mirror top 100;mirror bottom 100"
                + ";shoal 0 0 0 0 200".repeat(3);
        b.same("the greatest wave", Bench.loaded(most).wave(0, 0), 999 * 4 * 5 * 8);
        b.same("the least wave", Bench.loaded(most).waveAt(0, 0, 1), -999 * 4 * 5 * 8);
        b.same("its energy", Bench.loaded(most).energy(0, 0, 40), 159840L * 159840 * 40);
        RippleTank sum = Bench.loaded("tank width 1 height 1 fade 0;train 0 0 1 9999 2 90 0 9;train 0 0 1 "
                + "9999 2 90 0 9;shoal 0 0 0 0 50;shape 0 square;shape 1 square");
        b.same("of the sum, not of the parts", sum.wave(0, 0), 1);
    }

    private void wavesAt() {
        b.sentence("promise 28", "Throws `IllegalArgumentException` if t is out of range");
        RippleTank t = Bench.loaded(LANE);
        b.same("the first time", t.waveAt(0, 0, 0), 100);
        b.same("the last even time", t.waveAt(0, 0, 9998), -100);
        b.same("the last time", t.waveAt(0, 0, 9999), 0);
        b.refusedAll("t", Bench.ARGUMENT, time -> t.waveAt(0, 0, time), -1, 10000);
        b.sentence("promise 27", "Returns the wave of a cell now (section 4).");
        b.same("at first", t.wave(0, 0), 100);
        t.advance(2);
        b.same("later", t.wave(0, 0), -100);
        b.same("the first time still", t.waveAt(0, 0, 0), 100);
    }

    private void quietTimes() {
        // 9 at the time 0, and 999 of 1000 parts of it at the time 1.
        RippleTank t = oneCell("9 70 99 90 0 9", "");
        b.sentence("promise 29", "Returns after how many more steps the absolute value of the wave of a "
                + "cell is at most a tolerance.");
        b.same("above", t.quietIn(0, 0, 8, 40), 1);
        b.same("at it", t.quietIn(0, 0, 9, 40), 0);
        b.same("negative, above", oneCell("9 70 2 270 0 0", "").quietIn(0, 0, 8, 9), 1);
        b.same("negative, at it", oneCell("9 70 2 270 0 0", "").quietIn(0, 0, 9, 9), 0);
        b.sentence("promise 29", "Returns the number of steps, 0 if it is so now; NONE if it is not so "
                + "after 0 to n steps (times greater than 9999 are looked at, too).");
        RippleTank square = oneCell("9 70 99 0 0 9", ";shape 0 square");
        b.same("so now", oneCell("9 70 99 0 1 9", ";shape 0 square").quietIn(0, 0, 0, 1), 0);
        b.same("one step too few", square.quietIn(0, 0, 0, 9), RippleTank.NONE);
        b.same("just enough steps", square.quietIn(0, 0, 0, 10), 10);
        b.same("more than enough", square.quietIn(0, 0, 0, 200), 10);
        square.advance(1);
        b.same("a step nearer", square.quietIn(0, 0, 0, 9), 9);
        RippleTank long200 = oneCell("9 9999 2 90 0 199", ";shape 0 square");
        b.same("the most steps", long200.quietIn(0, 0, 0, 200), 200);
        b.same("the most steps less one", long200.quietIn(0, 0, 0, 199), RippleTank.NONE);
        b.same("never", Bench.loaded("tank width 1 height 1 fade 0;" + FLAT).quietIn(0, 0, 99, 200),
                RippleTank.NONE);
        RippleTank end = atTheEnd("tank width 1 height 1 fade 0;" + FLAT);
        b.same("at 10000 nothing is emitted", end.quietIn(0, 0, 0, 1), 1);
        b.same("but at 9999", end.quietIn(0, 0, 100, 1), 0);
        RippleTank delayed = atTheEnd("tank width 3 height 1 fade 0;train 0 0 9 100 70 0 0 9999"
                + ";shape 0 square");
        b.same("what was emitted before", delayed.quietIn(2, 0, 8, 140), RippleTank.NONE);
        b.same("and then nothing", delayed.quietIn(2, 0, 8, 141), 141);
        b.sentence("promise 29", "Throws `IllegalArgumentException` if tolerance or n is out of range");
        b.refusedAll("tolerance", Bench.ARGUMENT, a -> t.quietIn(0, 0, a, 1), -1, 10000);
        b.refusedAll("n", Bench.ARGUMENT, n -> t.quietIn(0, 0, 0, n), 0, 201);
        b.same("the greatest tolerance", t.quietIn(0, 0, 9999, 200), 0);
    }

    // ---- promises 30 to 34

    private void gaugeCounts() {
        b.sentence("promise 30", "Returns the number of gauges; 0 if there is no tank.");
        b.same("no tank", new RippleTank().gauges(), 0);
        for (int count = 0; count <= 4; count++) {
            RippleTank t = Bench.loaded(LANE + ";gauge 3 0".repeat(count));
            b.same("gauges", t.gauges(), count);
        }
        b.sentence("promise 31", "Throws `IndexOutOfBoundsException` if there is no such gauge");
        for (int count = 0; count <= 4; count++) {
            RippleTank t = Bench.loaded(LANE + ";gauge 3 0".repeat(count));
            b.refusedAll("gaugeAt, gauge", Bench.INDEX, g -> t.gaugeAt(g, 0), -1, count);
            b.refusedAll("peak, gauge", Bench.INDEX, g -> t.peak(g, 1), -1, count);
            b.refusedAll("crossings, gauge", Bench.INDEX, g -> t.crossings(g, 1), -1, count);
            b.refusedAll("rhythm, gauge", Bench.INDEX, g -> t.rhythm(g, 1), -1, count);
            if (count > 0) {
                b.same("the last one", t.gaugeAt(count - 1, 0), 3);
            }
        }
        b.sentence("promise 31", "0: the column; 1: the row");
        RippleTank corner = Bench.loaded("tank width 16 height 10 fade 0;" + FLAT + ";gauge 15 9");
        b.same("column", corner.gaugeAt(0, 0), 15);
        b.same("row", corner.gaugeAt(0, 1), 9);
        b.refusedAll("axis", Bench.ARGUMENT, a -> corner.gaugeAt(0, a), -1, 2);
    }

    private void peaks() {
        b.sentence("promise 32", "Returns the greatest absolute value of the wave at a gauge at n times "
                + "from now on.");
        RippleTank t = oneCell("100 70 5 90 39 39", ";gauge 0 0;shape 0 saw");
        // 90 + 360 * 39 / 5 is 8 * 360 + 18, and the value of the saw there -900.
        b.same("one time too few", t.peak(0, 39), 0);
        b.same("the last of 40 times", t.peak(0, 40), 90);
        b.same("one time too few after it", t.peak(0, 39), 0);
        t.advance(38);
        b.same("the next time", t.peak(0, 1), 0);
        b.same("two times", t.peak(0, 2), 90);
        t.advance(1);
        b.same("now", t.peak(0, 1), 90);
        t.advance(1);
        b.same("over", t.peak(0, 40), 0);
        RippleTank lane = Bench.loaded(LANE + ";gauge 0 0");
        b.same("positive", lane.peak(0, 1), 100);
        lane.advance(1);
        b.same("0", lane.peak(0, 1), 0);
        b.same("negative", lane.peak(0, 2), 100);
        RippleTank end = atTheEnd("tank width 2 height 1 fade 0;train 0 0 100 100 4 90 0 9999"
                + ";gauge 1 0");
        // At 9999 and 10001 there is 0, at 10000 and 10002 what was emitted at 9996 and 9998.
        b.same("9999", end.peak(0, 1), 0);
        b.same("times beyond", end.peak(0, 2), 100);
    }

    private void crossings() {
        b.sentence("promise 33", "of the waves at n times from now on, those that are 0 are left out; "
                + "each one whose sign is another one than that of the one before counts.");
        RippleTank lane = Bench.loaded(LANE + ";gauge 0 0;gauge 3 0");
        int[] due = {0, 0, 1, 1, 2, 2, 3, 3};
        for (int n = 1; n <= due.length; n++) {
            b.same(n + " times", lane.crossings(0, n), due[n - 1]);
        }
        b.same("40 times", lane.crossings(0, 40), 19);
        b.same("all are 0", lane.crossings(1, 12), 0);
        b.same("zeros first", lane.crossings(1, 14), 0);
        b.same("then a change", lane.crossings(1, 15), 1);
        lane.advance(1);
        b.same("a zero first", lane.crossings(0, 4), 1);
        b.same("one time", lane.crossings(0, 1), 0);
        RippleTank flat = Bench.loaded("tank width 1 height 1 fade 0;" + FLAT + ";gauge 0 0");
        b.same("all change", flat.crossings(0, 40), 39);
        flat.setOn(0, false);
        b.same("nothing", flat.crossings(0, 40), 0);
        RippleTank same = oneCell("9 70 99 0 0 9", ";shape 0 square;cut 0 3 5;gauge 0 0");
        b.same("the same sign past zeros", same.crossings(0, 40), 0);
        RippleTank other = oneCell("9 70 4 0 0 9", ";shape 0 square;cut 0 2 2;gauge 0 0");
        b.same("another sign past a zero", other.crossings(0, 4), 1);
        b.same("not with the zero", other.crossings(0, 3), 0);
        RippleTank least = oneCell("1 9999 2 90 0 9", ";shape 0 square;gauge 0 0");
        b.same("the least waves, 1 and -1", least.crossings(0, 40), 9);
    }

    /** A wave of 9 at time 0 and a wave of either sign at another time, nothing else. */
    private static RippleTank twoBeats(int time, boolean alike) {
        // At even and odd times the square of period 2 has the one or the other sign.
        int phase = (time % 2 == 0) == alike ? 90 : 270;
        return oneCell("9 9999 2 90 0 0", ";train 0 0 9 9999 2 " + phase + " " + time + " " + time
                + ";shape 0 square;shape 1 square;gauge 0 0");
    }

    private void rhythms() {
        b.sentence("promise 34", "Finds the lag from 1 to 20 with the greatest sum, over n times t from "
                + "now on, of the wave at the gauge at t times that at t + lag.");
        for (int lag = 1; lag <= 20; lag++) {
            b.same("a beat after " + lag, twoBeats(lag, true).rhythm(0, 1), lag);
            b.same("a counter-beat after " + lag, twoBeats(lag, false).rhythm(0, 1), lag == 1 ? 2 : 1);
        }
        b.same("a lag of 21 is not looked at", twoBeats(21, true).rhythm(0, 1), 1);
        RippleTank last = oneCell("9 9999 2 90 39 39", ";train 0 0 9 9999 2 270 58 58;shape 0 square"
                + ";shape 1 square;gauge 0 0");
        // The first wave is -9 at 39, the second one -9 at 58.
        b.same("one time too few", last.rhythm(0, 39), 1);
        b.same("the last of 40 times", last.rhythm(0, 40), 19);
        RippleTank far = oneCell("9 9999 2 90 39 39", ";train 0 0 9 9999 2 90 59 59;shape 0 square"
                + ";shape 1 square;gauge 0 0");
        b.same("the last time and the last lag", far.rhythm(0, 40), 20);
        b.sentence("promise 34", "Returns the lag, of several the smallest one.");
        RippleTank flat = Bench.loaded("tank width 1 height 1 fade 0;" + FLAT + ";gauge 0 0");
        b.same("all even lags", flat.rhythm(0, 40), 2);
        flat.setOn(0, false);
        b.same("all lags", flat.rhythm(0, 40), 1);
        RippleTank end = atTheEnd("tank width 1 height 1 fade 0;" + FLAT + ";gauge 0 0");
        b.same("nothing beyond 9999", end.rhythm(0, 40), 1);
        // At (1, 0) comes at 9999 what was emitted at 9989, and at 10009 what was at 9999.
        RippleTank beyond = atTheEnd("tank width 2 height 1 fade 0;train 0 0 9 100 10 90 9989 9989"
                + ";train 0 0 9 100 10 90 9999 9999;gauge 1 0;shape 0 square;shape 1 square");
        b.same("times beyond 9999", beyond.rhythm(0, 1), 10);
        RippleTank loud = oneCell("999 9999 2 90 0 9999", ";shape 0 square;gauge 0 0"
                + ";shoal 0 0 0 0 200".repeat(3) + ";mirror left 100;mirror top 100");
        // Each product is 575 millions, so that four of them are beyond an int.
        for (int n = 1; n <= 40; n++) {
            b.same("long sums of " + n, loud.rhythm(0, n), 2);
        }
    }

    // ---- section 5, promises 35 to 38

    private void nodes() {
        b.sentence("section 5", "A cell is a node for n and a tolerance if the absolute value of its wave "
                + "is at most the tolerance at all these times.");
        RippleTank t = oneCell("9 9999 2 90 0 9999", ";shape 0 square");
        b.same("positive, at it", t.isNode(0, 0, 1, 9), true);
        b.same("positive, above", t.isNode(0, 0, 1, 8), false);
        t.advance(1);
        b.same("negative, at it", t.isNode(0, 0, 1, 9), true);
        b.same("negative, above", t.isNode(0, 0, 1, 8), false);
        RippleTank late = oneCell("9 9999 2 90 39 39", ";shape 0 square");
        b.same("39 times", late.isNode(0, 0, 39, 0), true);
        b.same("40 times", late.isNode(0, 0, 40, 0), false);
        b.same("40 times, at it", late.isNode(0, 0, 40, 9), true);
        RippleTank early = oneCell("9 9999 2 90 0 0", ";shape 0 square");
        b.same("the first time", early.isNode(0, 0, 40, 0), false);
        early.advance(1);
        b.same("past it", early.isNode(0, 0, 40, 0), true);
        RippleTank loud = oneCell("999 9999 2 90 0 9999", ";shape 0 square;shoal 0 0 0 0 200"
                + ";mirror left 100;mirror top 100;mirror right 100;mirror bottom 1");
        b.same("8008", loud.isNode(0, 0, 40, 8010), true);
        b.same("the greatest tolerance", loud.isNode(0, 0, 40, 9999), true);
        b.same("just", loud.isNode(0, 0, 40, (999 * 4 + 9) * 2), true);
        b.same("just not", loud.isNode(0, 0, 40, (999 * 4 + 9) * 2 - 1), false);
        RippleTank louder = oneCell("999 9999 2 90 0 9999", ";shape 0 square;shoal 0 0 0 0 200"
                + ";shoal 0 0 0 0 200;mirror left 100;mirror top 100");
        b.same("11988", louder.isNode(0, 0, 1, 9999), false);
        b.sentence("promise 35", "Throws `IllegalArgumentException` if n or tolerance is out of range");
        b.refusedAll("n", Bench.ARGUMENT, n -> t.isNode(0, 0, n, 0), 0, 41);
        b.refusedAll("tolerance", Bench.ARGUMENT, a -> t.isNode(0, 0, 1, a), -1, 10000);
    }

    private void nodesBeyondTime() {
        b.sentence("section 5", "For a number n, the times from now on, n in number, are looked at (they "
                + "may be greater than 9999).");
        // What is emitted until 9999 comes until 10003.
        RippleTank t = atTheEnd("tank width 2 height 1 fade 0;train 0 0 10 100 4 0 0 9999"
                + ";shape 0 square");
        b.same("energy of one time", t.energy(1, 0, 1), 100);
        b.same("energy of five times", t.energy(1, 0, 5), 500);
        b.same("energy of six times", t.energy(1, 0, 6), 500);
        b.same("energy of forty times", t.energy(1, 0, 40), 500);
        b.same("energy of itself", t.energy(0, 0, 40), 100);
        RippleTank quiet = atTheEnd("tank width 2 height 1 fade 0;train 0 0 10 100 4 0 9999 9999"
                + ";shape 0 square");
        b.same("quiet until 10002", quiet.isNode(1, 0, 4, 9), true);
        b.same("but at 10003", quiet.isNode(1, 0, 5, 9), false);
        b.same("nodes until 10002", quiet.nodes(4, 9), 1);
        b.same("nodes until 10003", quiet.nodes(5, 9), 0);
        b.same("its energy until 10003", quiet.energy(1, 0, 5), 100);
    }

    private void nodeRows() {
        b.sentence("promise 37", "Returns a bit set (bit x for column x).");
        for (int x = 0; x < 16; x++) {
            RippleTank t = Bench.loaded("tank width 16 height 2 fade 0;train 0 0 9 9999 2 90 0 9999"
                    + ";shape 0 square;shoal " + x + " 1 " + x + " 1 0");
            b.same("column " + x, t.nodeRows(1, 40, 0), 1 << x);
            b.same("no column", t.nodeRows(0, 40, 0), 0);
            b.same("one node", t.nodes(40, 0), 1);
        }
        RippleTank off = Bench.loaded("tank width 16 height 10 fade 0;" + FLAT + ";off 0");
        b.same("all columns", off.nodeRows(9, 40, 0), 65535);
        b.sentence("promise 36", "Returns the number of cells.");
        b.same("none", Bench.loaded("tank width 16 height 10 fade 0;" + FLAT).nodes(40, 99), 0);
        b.same("all", Bench.loaded("tank width 16 height 10 fade 0;" + FLAT).nodes(40, 100), 160);
        b.same("all, without a wave", off.nodes(1, 0), 160);
        RippleTank closed = Bench.loaded("tank width 3 height 2 fade 0 wall 1;" + FLAT);
        b.same("a wall and what is behind it", closed.nodes(40, 0), 4);
        b.same("one row of it", closed.nodeRows(0, 40, 0), 6);
        closed.turnRow(1);
        b.same("one open row", closed.nodes(40, 0), 1);
    }

    /** Groups of the nodes where shoals of 0 percent lie, in a tank of 4 columns and 3 rows. */
    private int groups(String... shoals) {
        StringBuilder text = new StringBuilder("tank width 4 height 3 fade 0;" + FLAT);
        for (String shoal : shoals) {
            text.append(";shoal ").append(shoal).append(" 0");
        }
        return Bench.loaded(text.toString()).nodeGroups(40, 0);
    }

    private void nodeGroups() {
        b.sentence("promise 38", "two nodes belong to one group if they are connected by nodes, each one "
                + "beside the next one in the same row or the same column.");
        b.same("no node", groups(), 0);
        b.same("one node", groups("1 1 1 1"), 1);
        b.same("all nodes", groups("0 0 3 2"), 1);
        b.same("beside each other", groups("1 1 1 1", "2 1 2 1"), 1);
        b.same("below each other", groups("1 1 1 1", "1 2 1 2"), 1);
        b.same("one between them", groups("0 1 0 1", "2 1 2 1"), 2);
        b.same("a row between them", groups("1 0 1 0", "1 2 1 2"), 2);
        b.same("connected by a third one", groups("0 1 0 1", "2 1 2 1", "1 1 1 1"), 1);
        b.same("corner to corner", groups("1 1 1 1", "2 2 2 2"), 2);
        b.same("corner to corner, the other way", groups("2 1 2 1", "1 2 1 2"), 2);
        b.same("the end of a row and the start of the next one", groups("3 0 3 0", "0 1 0 1"), 2);
        b.same("two whole rows", groups("0 0 3 0", "0 2 3 2"), 2);
        b.same("two whole rows, joined at the right", groups("0 0 3 0", "0 2 3 2", "3 1 3 1"), 1);
        b.same("two whole columns", groups("0 0 0 2", "3 0 3 2"), 2);
        b.same("two columns, joined at the top", groups("0 0 0 2", "3 0 3 2", "1 0 2 0"), 1);
        b.same("two columns, joined at the bottom", groups("0 0 0 2", "3 0 3 2", "1 2 2 2"), 1);
        b.same("four corners less one", groups("0 0 0 0", "3 0 3 0", "0 2 0 2"), 3);
        b.same("corner to corner at the start", groups("1 0 1 0", "0 1 0 1"), 2);
        b.same("two short columns, joined at the bottom", groups("0 0 0 1", "2 0 2 1", "1 1 1 1"), 1);
        b.same("joined leftwards from below", groups("1 0 1 0", "1 1 1 1", "0 1 0 1"), 1);
        tallAndWideGroups();
        RippleTank all = Bench.loaded("tank width 16 height 10 fade 0;" + FLAT);
        b.same("160 in one group", all.nodeGroups(40, 100), 1);
        b.same("160 in one group again", all.nodeGroups(1, 100), 1);
        b.same("160 in one group once more", all.nodeGroups(1, 9999), 1);
        b.same("none in 160", all.nodeGroups(40, 99), 0);
        all.setOn(0, false);
        b.same("all, as it is off now", all.nodeGroups(40, 99), 1);
        all.undo();
        b.same("none, as it is on again", all.nodeGroups(40, 99), 0);
    }

    /** The same bent groups in a column and in a row, far from the first cells. */
    private void tallAndWideGroups() {
        String tall = "tank width 3 height 10 fade 0;" + FLAT;
        b.same("a whole column", Bench.loaded("tank width 1 height 10 fade 0;" + FLAT)
                .nodeGroups(1, 100), 1);
        b.same("a whole row", Bench.loaded("tank width 16 height 1 fade 0;" + FLAT)
                .nodeGroups(1, 100), 1);
        b.same("a tall one, all", Bench.loaded(tall).nodeGroups(1, 100), 1);
        b.same("a tall one, its last cell", Bench.loaded(tall + ";shoal 2 9 2 9 0").nodeGroups(1, 0), 1);
        b.same("a tall one, bent below", Bench.loaded(tall + ";shoal 0 8 0 9 0;shoal 2 8 2 9 0"
                + ";shoal 1 9 1 9 0").nodeGroups(1, 0), 1);
        b.same("a tall one, bent to the left", Bench.loaded(tall + ";shoal 2 7 2 9 0;shoal 0 9 1 9 0")
                .nodeGroups(1, 0), 1);
        String wide = "tank width 16 height 2 fade 0;" + FLAT;
        b.same("a wide one, all", Bench.loaded(wide).nodeGroups(1, 100), 1);
        b.same("a wide one, its last cell", Bench.loaded(wide + ";shoal 15 1 15 1 0").nodeGroups(1, 0),
                1);
        b.same("a wide one, bent to the left", Bench.loaded(wide + ";shoal 15 0 15 1 0"
                + ";shoal 9 1 14 1 0").nodeGroups(1, 0), 1);
        b.same("a wide one, bent below", Bench.loaded(wide + ";shoal 13 0 13 1 0;shoal 15 0 15 1 0"
                + ";shoal 14 1 14 1 0").nodeGroups(1, 0), 1);
    }

    // ---- section 5, promises 39 to 44

    private void energies() {
        b.sentence("section 5", "The energy of a cell for n is the sum of the squares of its wave at "
                + "these times.");
        RippleTank t = oneCell("10 9999 2 90 3 39", ";shape 0 square");
        b.same("three times of none", t.energy(0, 0, 3), 0);
        b.same("a time of some", t.energy(0, 0, 4), 100);
        b.same("39 times", t.energy(0, 0, 39), 3600);
        b.same("40 times", t.energy(0, 0, 40), 3700);
        t.advance(39);
        b.same("the last time", t.energy(0, 0, 40), 100);
        t.advance(1);
        b.same("none", t.energy(0, 0, 40), 0);
        b.sentence("promise 39", "Throws `IllegalArgumentException` if n is out of range");
        b.refusedAll("n", Bench.ARGUMENT, n -> t.energy(0, 0, n), 0, 41);
    }

    private void energySums() {
        RippleTank t = Bench.loaded("tank width 16 height 10 fade 0;train 0 0 999 9999 2 90 0 9999"
                + ";shape 0 square;shoal 0 0 15 9 200;shoal 0 9 15 9 200;shoal 15 9 15 9 0");
        long once = 1998L * 1998 * 40;
        b.sentence("promise 40", "Returns the sum of the energies of the cells of a row.");
        b.same("the first row", t.rowEnergy(0, 40), 16 * once);
        b.same("the last row but its last cell", t.rowEnergy(9, 40), 15 * 4 * once);
        b.same("one time", t.rowEnergy(0, 1), 16 * 1998L * 1998);
        b.refusedAll("row", Bench.INDEX, y -> t.rowEnergy(y, 1), -1, 10);
        b.sentence("promise 41", "Returns the sum of the energies of all cells.");
        b.same("all rows", t.allEnergy(40), (16 * 9 + 60) * once);
        b.same("one cell", oneCell("7 9999 2 90 0 9999", ";shape 0 square").allEnergy(40), 49 * 40);
        b.same("none", oneCell("7 9999 2 90 0 9999", ";off 0").allEnergy(40), 0);
    }

    private void ranks() {
        b.sentence("promise 42", "greater energies first, of equal ones the smaller y * WIDTH + x.");
        // Rows of 900, 450 and 450, 372 as it fades; the diagonal is 141 away.
        RippleTank t = Bench.loaded("tank width 2 height 2 fade 100;train 1 0 900 9999 2 90 0 9999"
                + ";shape 0 square");
        int[] due = {1, 0, 3, 2};
        for (int rank = 0; rank < 4; rank++) {
            b.same("rank " + rank, t.strongest(rank, 40), due[rank]);
        }
        b.sentence("promise 42", "Throws `IndexOutOfBoundsException` if rank is negative or not less than "
                + "the number of cells");
        b.refusedAll("rank", Bench.INDEX, rank -> t.strongest(rank, 1), -1, 4);
        RippleTank one = oneCell("7 9999 2 90 0 9999", "");
        b.same("the only cell", one.strongest(0, 1), 0);
        b.refusedAll("rank in one cell", Bench.INDEX, rank -> one.strongest(rank, 1), -1, 1);
        RippleTank all = Bench.loaded("tank width 16 height 10 fade 0;" + FLAT);
        for (int rank = 0; rank < 160; rank++) {
            b.same("all are equal, rank " + rank, all.strongest(rank, 1), rank);
        }
        b.refusedAll("rank in 160 cells", Bench.INDEX, rank -> all.strongest(rank, 1), -1, 160);
        all.setOn(0, false);
        b.same("all are 0", all.strongest(159, 40), 159);
    }

    private void marks() {
        b.sentence("section 5", "A cell is an energy mark for n and a share if its energy is greater than "
                + "0 and 100 * its energy is at least share * the greatest energy of a cell.");
        // Waves of 900, 450, 300, 225 and 180: parts of 100, 25, 11.1, 6.25 and 4 in 100.
        RippleTank t = Bench.loaded(FADING);
        int[][] due = {{100, 1}, {26, 1}, {25, 2}, {12, 2}, {11, 3}, {7, 3}, {6, 4}, {5, 4}, {4, 5},
            {1, 5}};
        for (int[] line : due) {
            b.same("share " + line[0], t.marks(40, line[0]), line[1]);
            for (int y = 0; y < 5; y++) {
                b.same("share " + line[0] + ", row " + y, t.isMark(0, y, 40, line[0]), y < line[1]);
            }
        }
        RippleTank first = Bench.loaded(FADING);
        b.same("the first question", first.isMark(0, 1, 1, 26), false);
        b.same("the next one", first.isMark(0, 1, 1, 25), true);
        RippleTank one = oneCell("1 9999 2 90 0 0", ";shape 0 square");
        b.same("an energy of 1", one.marks(40, 100), 1);
        b.same("an energy of 1, its cell", one.isMark(0, 0, 40, 100), true);
        // 990 and 1000: 98.01 parts of 100.
        RippleTank near = Bench.loaded("tank width 2 height 1 fade 0;train 0 0 500 9999 2 90 0 9999"
                + ";shape 0 square;mirror left 100;shoal 1 0 1 0 99");
        b.same("98 in 100", near.marks(1, 98), 2);
        b.same("just less than 99 in 100", near.marks(1, 99), 1);
        RippleTank nearer = Bench.loaded("tank width 2 height 1 fade 9999"
                + ";train 0 0 105 9999 2 90 0 9999;shape 0 square");
        // 103 and 105: 96.2 parts of 100.
        b.same("103 and 105, share 96", nearer.marks(1, 96), 2);
        b.same("103 and 105, share 97", nearer.marks(1, 97), 1);
        RippleTank zero = Bench.loaded(FADING + ";shoal 0 0 0 1 0");
        b.same("greater than 0", zero.marks(1, 1), 3);
        b.same("a cell of 0", zero.isMark(0, 0, 1, 1), false);
        zero.setOn(0, false);
        b.same("the greatest is 0", zero.marks(40, 1), 0);
        b.same("the greatest is 0, share 100", zero.marks(40, 100), 0);
        b.same("the greatest is 0, a cell", zero.isMark(0, 4, 40, 100), false);
        b.same("all are the greatest", Bench.loaded("tank width 16 height 10 fade 0;" + FLAT)
                .marks(40, 100), 160);
        b.sentence("promise 43", "Throws `IllegalArgumentException` if n or share is out of range");
        b.refusedAll("n", Bench.ARGUMENT, n -> t.marks(n, 1), 0, 41);
        b.refusedAll("share", Bench.ARGUMENT, share -> t.marks(1, share), 0, 101);
    }

    // ---- promises 45 and 46

    private void fringes() {
        b.sentence("promise 45", "cells whose energy is greater than that of each neighbour in the column "
                + "(one or two; if HEIGHT is 1, there is none, and the cell counts).");
        b.same("one row", oneCell("7 9999 2 90 0 9999", "").fringes(0, 1), 1);
        b.same("one row, no energy", oneCell("7 9999 2 90 0 9999", ";off 0").fringes(0, 40), 1);
        b.same("two rows, the first one", column(2, "0 1 0 1 50").fringes(0, 1), 1);
        b.same("two rows, the last one", column(2, "0 0 0 0 50").fringes(0, 1), 1);
        b.same("two rows, equal", column(2).fringes(0, 1), 0);
        b.same("two rows, both 0", column(2, "0 0 0 1 0").fringes(0, 1), 0);
        b.same("three rows, the middle one", column(3, "0 1 0 1 150").fringes(0, 1), 1);
        b.same("three rows, both ends", column(3, "0 1 0 1 50").fringes(0, 1), 2);
        b.same("three rows, less above, equal below", column(3, "0 0 0 0 50").fringes(0, 1), 0);
        b.same("three rows, equal above, less below", column(3, "0 2 0 2 50").fringes(0, 1), 0);
        b.same("ten rows, both ends and row 2", column(10, "0 1 0 1 50", "0 3 0 3 50", "0 8 0 8 50")
                .fringes(0, 1), 3);
        RippleTank used = Bench.loaded("tank width 2 height 2 fade 0;" + FLAT + ";shoal 0 1 1 1 150");
        used.allEnergy(40);
        b.same("after other questions", used.fringes(0, 40), 1);
        RippleTank smaller = Bench.loaded("tank width 1 height 4 fade 100;train 0 0 900 9999 2 90 0 9"
                + ";shape 0 square");
        smaller.allEnergy(1);
        Bench.load(smaller, "tank width 1 height 2 fade 0;train 0 0 90 9999 2 90 0 9;shape 0 square");
        b.same("after a greater tank", smaller.fringes(0, 1), 0);
        b.same("falling", Bench.loaded(FADING).fringes(0, 1), 1);
        b.same("rising", Bench.loaded(FADING.replace("train 0 0", "train 0 4")).fringes(0, 1), 1);
        b.same("another column", Bench.loaded("tank width 2 height 2 fade 0;" + FLAT
                + ";shoal 1 1 1 1 50").fringes(0, 1), 0);
        b.same("this column", Bench.loaded("tank width 2 height 2 fade 0;" + FLAT
                + ";shoal 1 1 1 1 50").fringes(1, 1), 1);
    }

    /** A column of equal cells but for its shoals. */
    private static RippleTank column(int height, String... shoals) {
        StringBuilder text = new StringBuilder("tank width 1 height " + height + " fade 0;" + FLAT);
        for (String shoal : shoals) {
            text.append(";shoal ").append(shoal);
        }
        return Bench.loaded(text.toString());
    }

    private void visibility() {
        b.sentence("promise 46", "the difference a - b, converted to a float, is divided by the sum a + b, "
                + "converted to a float.");
        b.same("900 and 180", Bench.loaded(FADING).visibility(0, 1),
                (float) (810000 - 32400) / (float) (810000 + 32400));
        b.same("the smallest first", Bench.loaded(FADING.replace("train 0 0", "train 0 4"))
                .visibility(0, 1), (float) (810000 - 32400) / (float) (810000 + 32400));
        b.same("the greatest in the middle", column(3, "0 1 0 1 150").visibility(0, 1),
                (float) (22500 - 10000) / (float) (22500 + 10000));
        b.same("the smallest in the middle", column(3, "0 1 0 1 50").visibility(0, 1),
                (float) (10000 - 2500) / (float) (10000 + 2500));
        b.same("the smallest is 0", column(3, "0 1 0 1 0").visibility(0, 40), 1f);
        b.same("all alike", column(3).visibility(0, 40), 0f);
        b.same("one row", column(1).visibility(0, 40), 0f);
        long a = 999L * 999 * 64 * 40;
        long least = 999L * 999 * 40;
        b.same("beyond int", Bench.loaded("tank width 1 height 2 fade 0;train 0 0 999 9999 2 90 0 9999"
                + ";shape 0 square" + ";shoal 0 0 0 0 200".repeat(3)).visibility(0, 40),
                (float) (a - least) / (float) (a + least));
        b.sentence("promise 46", "Returns the quotient; 0 if both are 0.");
        b.same("no wave", column(3, "0 0 0 2 0").visibility(0, 40), 0f);
        b.same("no wave, one row", column(1, "0 0 0 0 0").visibility(0, 40), 0f);
    }
}
