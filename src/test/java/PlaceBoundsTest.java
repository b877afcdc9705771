/** The boundaries of promises 7 to 25 and of sections 1 to 3, sentence by sentence. */
public final class PlaceBoundsTest {
    /** A train that is everywhere 100 at even times and -100 at odd ones, without a delay. */
    private static final String FLAT = "train 0 0 100 9999 2 90 0 9999;shape 0 square";
    /** A wall in the middle with rows 0 and 2 open, its only train at (0, 1). */
    private static final String WALLED = "tank width 5 height 3 fade 0 wall 2"
            + ";train 0 1 100 100 4 90 0 9999;slit 0 0;slit 2 2";
    private static final String OPEN = "tank width 5 height 3 fade 0;train 0 1 100 100 4 90 0 9999";

    private final Bench b = new Bench();

    public static void main(String[] args) {
        PlaceBoundsTest test = new PlaceBoundsTest();
        test.parts();
        test.sizes();
        test.wallRows();
        test.sourceCounts();
        test.driftingPlaces();
        test.distances();
        test.behind();
        test.pathsThroughRows();
        test.shortestPaths();
        test.mirrorImages();
        test.farthestImages();
        test.imagesWithoutPaths();
        test.emitting();
        test.cutting();
        test.bursting();
        test.rising();
        test.sines();
        test.shapes();
        test.anglesOfPaths();
        test.delays();
        test.reachedCells();
        test.b.end();
    }

    /** A tank of one cell, whose train emits at one time, the first. */
    private static RippleTank oneCell(String train, String lines) {
        return Bench.loaded("tank width 1 height 1 fade 0;train 0 0 " + train + lines);
    }

    // ---- section 1, promises 7 to 16

    private void parts() {
        b.sentence("section 1", "closed at first, except those of slit lines");
        RippleTank closed = Bench.loaded("tank width 1 height 10 fade 0 wall 0;" + FLAT);
        RippleTank slits = Bench.loaded("tank width 1 height 10 fade 0 wall 0;slit 3 5;slit 9 9;"
                + FLAT);
        for (int row = 0; row < 10; row++) {
            b.same("no slit, row " + row, closed.isOpen(row), false);
            b.same("slits, row " + row, slits.isOpen(row), row >= 3 && row <= 5 || row == 9);
        }
        b.sentence("section 1", "The time is 0 at first.");
        b.same("time", closed.time(), 0);
        b.sentence("section 1", "Sources, gauges and shoals are numbered from 0 in the order of the "
                + "text; sources are on at first, except those of off lines.");
        RippleTank t = Bench.loaded("tank width 4 height 4 fade 0;train 3 0 7 50 2 0 0 0;gauge 2 1"
                + ";train 1 2 8 50 2 0 0 0;off 0;gauge 0 3;train 0 3 9 50 2 0 0 0;off 2");
        int[] amps = {7, 8, 9};
        int[] columns = {3, 1, 0};
        for (int source = 0; source < 3; source++) {
            b.same("AMP of " + source, t.property(source, 0), amps[source]);
            b.same("X of " + source, t.sourceAt(source, 0, 0), columns[source]);
            b.same("on " + source, t.isOn(source), source == 1);
        }
        b.same("first gauge", t.gaugeAt(0, 0) * 10 + t.gaugeAt(0, 1), 21);
        b.same("second gauge", t.gaugeAt(1, 0) * 10 + t.gaugeAt(1, 1), 3);
        b.sentence("section 1", "A shoal consists of the cells whose columns and rows are from its first "
                + "to its last X and Y.");
        shoalCells(1, 1, 2, 2);
        shoalCells(0, 0, 3, 3);
        shoalCells(0, 2, 0, 3);
        shoalCells(3, 3, 3, 3);
        shoalCells(0, 0, 0, 0);
        shoalCells(1, 3, 3, 3);
    }

    private void shoalCells(int firstX, int firstY, int lastX, int lastY) {
        RippleTank t = Bench.loaded("tank width 4 height 4 fade 0;" + FLAT + ";shoal " + firstX + " "
                + firstY + " " + lastX + " " + lastY + " 0");
        for (int cell = 0; cell < 16; cell++) {
            int x = cell % 4;
            int y = cell / 4;
            boolean inside = x >= firstX && x <= lastX && y >= firstY && y <= lastY;
            b.same("shoal from " + firstX + " " + firstY + " at " + x + " " + y, t.wave(x, y),
                    inside ? 0 : 100);
        }
    }

    private void sizes() {
        RippleTank none = new RippleTank();
        RippleTank least = Bench.loaded("tank width 1 height 1 fade 0;train 0 0 1 50 2 0 0 0");
        RippleTank most = Bench.loaded("tank width 16 height 10 fade 0;train 0 0 1 50 2 0 0 0");
        b.sentence("promise 7", "Returns 0 to 9999; 0 if there is no tank.");
        b.same("no tank", none.time(), 0);
        b.same("at first", least.time(), 0);
        for (int i = 0; i < 10; i++) {
            least.advance(999);
        }
        b.same("the last but nine", least.time(), 9990);
        b.same("the last", least.advance(9), 9999);
        b.same("the last, asked", least.time(), 9999);
        b.sentence("promise 8", "Returns 1 to 16; 0 if there is no tank.");
        b.same("no tank", none.width(), 0);
        b.same("least", least.width(), 1);
        b.same("most", most.width(), 16);
        b.sentence("promise 9", "Returns 1 to 10; 0 if there is no tank.");
        b.same("no tank", none.height(), 0);
        b.same("least", least.height(), 1);
        b.same("most", most.height(), 10);
    }

    private void wallRows() {
        RippleTank open = Bench.loaded(OPEN);
        b.sentence("promise 10", "Returns the column; NONE if there is no wall.");
        b.same("none", open.wall(), RippleTank.NONE);
        for (int column = 0; column < 16; column++) {
            b.same("column " + column, Bench.loaded("tank width 16 height 10 fade 0 wall " + column
                    + ";train 0 0 1 50 2 0 0 0").wall(), column);
        }
        b.sentence("promise 11", "Returns a bit set (bit y for row y); 0 if there is no wall.");
        b.same("none", open.openRows(), 0);
        for (int row = 0; row < 10; row++) {
            RippleTank t = Bench.loaded("tank width 1 height 10 fade 0 wall 0"
                    + ";train 0 0 1 50 2 0 0 0;slit " + row + " " + row);
            b.same("row " + row, t.openRows(), 1 << row);
        }
        b.same("all rows", Bench.loaded("tank width 1 height 10 fade 0 wall 0"
                + ";train 0 0 1 50 2 0 0 0;slit 0 9").openRows(), 1023);
        b.sentence("promise 12", "Returns true if it is; false if there is no wall.");
        b.same("first row, no wall", open.isOpen(0), false);
        b.same("last row, no wall", open.isOpen(2), false);
        b.same("open", Bench.loaded(WALLED).isOpen(2), true);
        b.same("closed", Bench.loaded(WALLED).isOpen(1), false);
        b.sentence("promise 12", "Throws `IndexOutOfBoundsException` if there is no such row");
        b.refusedAll("row without a wall", Bench.INDEX, row -> open.isOpen(row), -1, 3, 31, 32);
        b.refusedAll("row", Bench.INDEX, row -> Bench.loaded(WALLED).isOpen(row), -1, 3, 31, 32, 34);
    }

    private void sourceCounts() {
        b.sentence("promise 13", "Returns the number of sources; 0 if there is no tank.");
        b.same("no tank", new RippleTank().sources(), 0);
        for (int count = 1; count <= 4; count++) {
            RippleTank t = Bench.loaded("tank width 1 height 1 fade 0"
                    + ";train 0 0 1 50 2 0 0 0".repeat(count));
            b.same("sources", t.sources(), count);
            int beyond = count;
            b.same("the last one", t.isOn(count - 1), true);
            b.refused("one beyond", Bench.INDEX, () -> t.isOn(beyond));
        }
        RippleTank t = Bench.loaded("tank width 2 height 1 fade 0;train 1 0 999 9999 99 359 9998 9999"
                + ";train 0 0 1 50 2 0 0 0;off 1");
        b.sentence("promise 15", "0: AMP; 1: LENGTH; 2: PERIOD; 3: PHASE; 4: FROM; 5: UNTIL");
        int[] most = {999, 9999, 99, 359, 9998, 9999};
        int[] least = {1, 50, 2, 0, 0, 0};
        for (int what = 0; what < 6; what++) {
            b.same("the greatest, " + what, t.property(0, what), most[what]);
            b.same("the least, " + what, t.property(1, what), least[what]);
        }
        b.sentence("promise 16", "Returns true if it is.");
        b.same("on", t.isOn(0), true);
        b.same("off", t.isOn(1), false);
    }

    // ---- section 2, promises 14 and 19 to 22

    private void driftingPlaces() {
        b.sentence("section 2", "a source is in column X + VX * t / 100 and row Y + VY * t / 100, the "
                + "quotients being rounded towards 0;");
        RippleTank t = Bench.loaded("tank width 16 height 10 fade 0;train 8 5 1 50 2 0 0 0"
                + ";drift 0 1 -1;train 8 5 1 50 2 0 0 0;drift 1 -3 3");
        int[] times = {0, 1, 33, 34, 66, 67, 99, 100, 101, 199, 200};
        int[] ones = {0, 0, 0, 0, 0, 0, 0, 1, 1, 1, 2};
        int[] threes = {0, 0, 0, 1, 1, 2, 2, 3, 3, 5, 6};
        for (int i = 0; i < times.length; i++) {
            b.same("VX 1 at " + times[i], t.sourceAt(0, 0, times[i]), 8 + ones[i]);
            b.same("VY -1 at " + times[i], t.sourceAt(0, 1, times[i]), 5 - ones[i]);
            b.same("VX -3 at " + times[i], t.sourceAt(1, 0, times[i]), 8 - threes[i]);
            b.same("VY 3 at " + times[i], t.sourceAt(1, 1, times[i]), Math.min(9, 5 + threes[i]));
        }
        b.sentence("section 2", "a column or row that would be outside the tank is the nearest one "
                + "inside it.");
        RippleTank small = Bench.loaded("tank width 3 height 3 fade 0;train 1 1 1 50 2 0 0 0"
                + ";drift 0 1 1;train 1 1 1 50 2 0 0 0;drift 1 -1 -1");
        int[] due = {1, 2, 2, 2};
        for (int i = 0; i < 4; i++) {
            for (int axis = 0; axis < 2; axis++) {
                b.same("beyond the end at " + 100 * i, small.sourceAt(0, axis, 100 * i), due[i]);
                b.same("before 0 at " + 100 * i, small.sourceAt(1, axis, 100 * i), 2 - due[i]);
            }
        }
        RippleTank far = Bench.loaded("tank width 16 height 10 fade 0;train 0 0 1 50 2 0 0 0"
                + ";drift 0 99 99;train 15 9 1 50 2 0 0 0;drift 1 -99 -99");
        b.same("the farthest column", far.sourceAt(0, 0, 9999), 15);
        b.same("the farthest row", far.sourceAt(0, 1, 9999), 9);
        b.same("the first column", far.sourceAt(1, 0, 9999), 0);
        b.same("the first row", far.sourceAt(1, 1, 9999), 0);
        b.same("just the last column", far.sourceAt(0, 0, 16), 15);
        b.same("just not the last column", far.sourceAt(0, 0, 15), 14);
        b.sentence("section 2", "Without a drift line VX and VY are 0.");
        RippleTank rest = Bench.loaded(OPEN);
        b.same("column at 9999", rest.sourceAt(0, 0, 9999), 0);
        b.same("row at 9999", rest.sourceAt(0, 1, 9999), 1);
    }

    private void distances() {
        b.sentence("section 2", "The distance of two cells is the square root of 10000 * (dx * dx + dy * "
                + "dy), rounded down,");
        RippleTank t = new RippleTank();
        for (int dx = 0; dx < 16; dx++) {
            for (int dy = 0; dy < 10; dy++) {
                int square = 10000 * (dx * dx + dy * dy);
                int root = t.distance(dx, dy);
                b.same("not too great at " + dx + " " + dy, root * root <= square, true);
                b.same("not too small at " + dx + " " + dy, (root + 1) * (root + 1) > square, true);
            }
        }
        b.sentence("promise 19", "Returns the distance in hundredths of a cell.");
        b.same("none", t.distance(0, 0), 0);
        b.same("one column", t.distance(1, 0), 100);
        b.same("one row", t.distance(0, 1), 100);
        b.same("15 and 9", t.distance(15, 9), 1749);
        b.sentence("promise 19", "Throws `IllegalArgumentException` if dx or dy is out of range");
        b.refusedAll("dx", Bench.ARGUMENT, dx -> t.distance(dx, 0), -1, 16);
        b.refusedAll("dy", Bench.ARGUMENT, dy -> t.distance(0, dy), -1, 10);
    }

    private void behind() {
        b.sentence("section 2", "A cell is behind the wall for a source if there is a wall and one of "
                + "both columns is less than that of the wall, the other one greater.");
        for (int source = 0; source < 5; source++) {
            String train = ";train " + source + " 1 100 100 4 90 0 9999";
            RippleTank walled = Bench.loaded("tank width 5 height 3 fade 0 wall 2" + train);
            RippleTank open = Bench.loaded("tank width 5 height 3 fade 0" + train);
            for (int x = 0; x < 5; x++) {
                b.same("from " + source + " to " + x, walled.isBehind(0, x, 1),
                        source < 2 && x > 2 || source > 2 && x < 2);
                b.same("from " + source + " to " + x + ", no wall", open.isBehind(0, x, 1), false);
            }
        }
        for (int wall = 0; wall < 3; wall += 2) {
            RippleTank edge = Bench.loaded("tank width 3 height 1 fade 0 wall " + wall
                    + ";train 1 0 100 100 4 90 0 9999");
            for (int x = 0; x < 3; x++) {
                b.same("a wall at the edge, " + x, edge.isBehind(0, x, 0), false);
            }
        }
        b.sentence("promise 20", "Tells whether a cell is behind the wall for a source now (section 2).");
        RippleTank t = Bench.loaded("tank width 5 height 1 fade 0 wall 2;train 1 0 1 50 2 0 0 0"
                + ";drift 0 50 0");
        boolean[] now = {true, true, false, false, false};
        for (int time = 0; time < 5; time++) {
            b.same("cell 3 at " + time, t.isBehind(0, 3, 0), now[time]);
            b.same("cell 1 at " + time, t.isBehind(0, 1, 0), time >= 4);
            t.advance(1);
        }
    }

    private void pathsThroughRows() {
        RippleTank t = Bench.loaded(WALLED);
        b.sentence("promise 21", "through a row of the wall, open or not");
        b.same("open", t.path(0, 4, 1, 0), 223 + 223);
        b.same("closed", t.path(0, 4, 1, 1), 200 + 200);
        b.same("to this side", t.path(0, 0, 1, 1), 400);
        b.same("to the wall itself", t.path(0, 2, 2, 2), 223);
        b.same("along the wall", t.path(0, 2, 2, 0), 223 + 200);
        b.same("each root rounded down", t.path(0, 3, 0, 2), 223 + 223);
        t.moveSource(0, 2, 1);
        b.same("from the wall", t.path(0, 2, 1, 1), 0);
        b.sentence("promise 21", "Returns the length; NONE if there is no wall.");
        b.same("no wall", Bench.loaded(OPEN).path(0, 4, 2, 2), RippleTank.NONE);
        b.refusedAll("row, no wall", Bench.INDEX, r -> Bench.loaded(OPEN).path(0, 0, 0, r), -1, 3);
        RippleTank wide = Bench.loaded("tank width 16 height 10 fade 0 wall 15;train 0 0 1 50 2 0 0 0");
        b.same("the longest", wide.path(0, 0, 0, 9), 1749 + 1749);
        b.same("the wall at 0", Bench.loaded("tank width 16 height 10 fade 0 wall 0"
                + ";train 15 9 1 50 2 0 0 0").path(0, 15, 9, 0), 1749 + 1749);
    }

    private void shortestPaths() {
        RippleTank t = Bench.loaded(WALLED);
        b.sentence("section 2", "If it is not, there is one path from the source to the cell, whose "
                + "length is the distance.");
        b.same("its own cell", t.shortest(0, 0, 1), 0);
        b.same("this side", t.shortest(0, 1, 0), 141);
        b.same("an open row of the wall", t.shortest(0, 2, 2), 223);
        b.sentence("section 2", "If it is, there is a path through each open row: its length is the "
                + "distance from the source to the cell of the wall in this row plus the distance "
                + "from there to the cell.");
        b.same("through row 0", t.shortest(0, 3, 0), 223 + 100);
        b.same("through row 2", t.shortest(0, 4, 2), 223 + 200);
        t.turnRow(1);
        b.same("through row 1", t.shortest(0, 3, 1), 200 + 100);
        t.turnRow(0);
        t.turnRow(1);
        b.same("row 2 alone", t.shortest(0, 3, 0), 223 + 223);
        RippleTank tall = Bench.loaded("tank width 3 height 10 fade 0 wall 1;train 0 9 1 50 2 0 0 0"
                + ";slit 9 9");
        b.same("through the last of ten rows", tall.shortest(0, 2, 9), 200);
        RippleTank drifting = Bench.loaded("tank width 9 height 9 fade 0 wall 6;train 1 1 1 50 2 0 0 0"
                + ";drift 0 2 4;slit 8 8");
        drifting.advance(100);
        b.same("from where it is now", drifting.shortest(0, 6, 8), 424);
        b.same("from where it is now, behind", drifting.shortest(0, 8, 8), 424 + 200);
        b.same("from where it is now, through a row", drifting.path(0, 8, 8, 5), 300 + 360);
        b.sentence("section 2", "The shortest path is the one with the smallest length; of several the "
                + "one through the smallest row.");
        RippleTank rows = Bench.loaded(WALLED);
        b.same("row 0 or 2, as long", rows.shortest(0, 3, 1), 223 + 141);
        b.same("row 0 or 2, as long, its angle", rows.phase(0, 3, 1), 90 - 1310 + 1440);
        b.same("row 0 or 2, as long, its arrival", rows.arrival(0, 3, 1), 14);
        rows.turnRow(1);
        b.same("not the first row", rows.shortest(0, 3, 1), 300);
        b.same("not the last row", rows.shortest(0, 4, 0), 223 + 200);
        b.sentence("section 2", "The cell of a closed row of the wall has no paths.");
        b.same("shortest to row 1", t.shortest(0, 2, 1), RippleTank.NONE);
        b.same("shortest to row 0", t.shortest(0, 2, 0), RippleTank.NONE);
        b.same("shortest to row 2, which is open", t.shortest(0, 2, 2), 223);
        b.same("no wave", t.waveAt(2, 1, 90), 0);
        t.moveSource(0, 2, 1);
        b.same("not even from there", t.shortest(0, 2, 1), RippleTank.NONE);
        b.same("but from there to others", t.shortest(0, 4, 1), 200);
        t.undo();
        b.sentence("promise 22", "Returns the length; NONE if there is no path.");
        b.same("one open row", t.shortest(0, 4, 1), 223 + 223);
        t.turnRow(2);
        b.same("no open row", t.shortest(0, 4, 1), RippleTank.NONE);
        b.same("this side", t.shortest(0, 1, 1), 100);
        b.sentence("promise 23", "Returns 0 to 359; NONE if there is no path.");
        b.same("no open row", t.phase(0, 4, 1), RippleTank.NONE);
        b.same("a closed row", t.phase(0, 2, 1), RippleTank.NONE);
        b.same("this side", t.phase(0, 1, 1), 90);
        b.sentence("promise 24", "Returns the time; NONE if there is no path.");
        b.same("no open row", t.arrival(0, 4, 1), RippleTank.NONE);
        b.same("a closed row", t.arrival(0, 2, 1), RippleTank.NONE);
        b.same("this side", t.arrival(0, 1, 1), 4);
    }

    /** Of a train that emits once, an image brings 40 when its distance has passed, at no other time. */
    private void imageAt(String text, String side, int x, int y, int cells) {
        RippleTank plain = Bench.loaded(text + ";shape 0 square");
        RippleTank t = Bench.loaded(text + ";shape 0 square;mirror " + side + " 40");
        for (int time = 0; time < 70; time++) {
            b.same("the image at the " + side + " of " + text + " to " + x + " " + y + " at " + time,
                    t.waveAt(x, y, time) - plain.waveAt(x, y, time), time == 2 * cells ? 40 : 0);
        }
    }

    private void mirrorImages() {
        b.sentence("section 2", "the left mirror one at (-1 - x, y), the right one at (2 * WIDTH - 1 - "
                + "x, y), the top one at (x, -1 - y), the bottom one at (x, 2 * HEIGHT - 1 - y)");
        String inside = "tank width 5 height 4 fade 0;train 1 2 100 100 2 90 0 0";
        imageAt(inside, "left", 1, 2, 3);
        imageAt(inside, "left", 0, 2, 2);
        imageAt(inside, "right", 1, 2, 7);
        imageAt(inside, "right", 4, 2, 4);
        imageAt(inside, "top", 1, 2, 5);
        imageAt(inside, "top", 1, 0, 3);
        imageAt(inside, "bottom", 1, 2, 3);
        imageAt(inside, "bottom", 1, 3, 2);
        String corner = "tank width 5 height 4 fade 0;train 0 0 100 100 2 90 0 0";
        imageAt(corner, "left", 0, 0, 1);
        imageAt(corner, "top", 0, 0, 1);
        String end = "tank width 5 height 4 fade 0;train 4 3 100 100 2 90 0 0";
        imageAt(end, "right", 4, 3, 1);
        imageAt(end, "bottom", 4, 3, 1);
        String one = "tank width 1 height 1 fade 0;train 0 0 100 100 2 90 0 0";
        for (String side : "left right top bottom".split(" ")) {
            imageAt(one, side, 0, 0, 1);
        }
        // With dx 3 and dy 4 the image is five cells away.
        imageAt(inside, "left", 1, 2, 3);
        imageAt("tank width 5 height 5 fade 0;train 1 0 100 100 2 90 0 0", "left", 1, 4, 5);
        imageAt("tank width 5 height 5 fade 0;train 4 1 100 100 2 90 0 0", "top", 1, 2, 5);
    }

    private void farthestImages() {
        b.sentence("section 2", "whose length is the distance (which is defined for images, too)");
        String end = "tank width 16 height 10 fade 0;train 15 9 100 100 2 90 0 0";
        imageAt(end, "left", 15, 9, 31);
        imageAt(end, "top", 15, 9, 19);
        String start = "tank width 16 height 10 fade 0;train 0 0 100 100 2 90 0 0";
        imageAt(start, "right", 0, 0, 31);
        imageAt(start, "bottom", 0, 0, 19);
        // The roots of 31 * 31 + 9 * 9 and 15 * 15 + 19 * 19 are 32.28 and 24.20.
        RippleTank left = Bench.loaded("tank width 16 height 10 fade 0;train 15 9 100 100 2 90 0 0"
                + ";mirror left 40;shape 0 square");
        b.same("a left image at the other end", left.waveAt(15, 0, 64), -40);
        b.same("just before", left.waveAt(15, 0, 63), 0);
        RippleTank top = Bench.loaded("tank width 16 height 10 fade 0;train 15 9 100 100 2 90 0 0"
                + ";mirror top 40;shape 0 square");
        b.same("a top image at the other end", top.waveAt(0, 9, 48), 40);
        b.same("just after", top.waveAt(0, 9, 49), 0);
        b.sentence("section 2", "it is not considered for the shortest path.");
        RippleTank t = Bench.loaded(WALLED + ";mirror left 100;mirror right 100;mirror top 100"
                + ";mirror bottom 100");
        RippleTank plain = Bench.loaded(WALLED);
        for (int cell = 0; cell < 15; cell++) {
            b.same("cell " + cell, t.shortest(0, cell % 5, cell / 5),
                    plain.shortest(0, cell % 5, cell / 5));
        }
    }

    private void imagesWithoutPaths() {
        b.sentence("section 2", "If a cell has paths and is not behind the wall for the source, there is "
                + "also a path from each image to the cell,");
        String sides = ";mirror left 50;mirror right 50;mirror top 50;mirror bottom 50";
        RippleTank t = Bench.loaded("tank width 5 height 1 fade 0 wall 2;" + FLAT + sides);
        b.same("this side", t.wave(1, 0), 300);
        b.same("behind, no open row", t.wave(3, 0), 0);
        b.same("a closed row of the wall", t.wave(2, 0), 0);
        t.turnRow(0);
        b.same("behind", t.wave(3, 0), 100);
        b.same("an open row of the wall", t.wave(2, 0), 300);
        t.moveSource(0, 2, 0);
        b.same("from the wall", t.wave(3, 0), 300);
    }

    // ---- section 3, promises 17, 18 and 23 to 25

    private void emitting() {
        b.sentence("section 3", "is 0 if e is less than FROM or greater than UNTIL");
        RippleTank t = oneCell("50 70 5 90 10 20", ";off 0");
        int[] times = {0, 9, 10, 11, 19, 20, 21, 9999};
        for (int time : times) {
            b.same("at " + time, t.amplitude(0, time), time >= 10 && time <= 20 ? 50 : 0);
        }
        RippleTank once = oneCell("50 70 5 90 7 7", "");
        b.same("before the only time", once.amplitude(0, 6), 0);
        b.same("at the only time", once.amplitude(0, 7), 50);
        b.same("after the only time", once.amplitude(0, 8), 0);
        RippleTank always = oneCell("999 70 5 90 0 9999", "");
        b.same("at the first time", always.amplitude(0, 0), 999);
        b.same("at the last time", always.amplitude(0, 9999), 999);
        b.sentence("promise 17", "Returns the amplitude with which a source emits at a time (section 3), "
                + "on or not.");
        b.same("off", t.amplitude(0, 15), 50);
        t.setOn(0, true);
        b.same("on", t.amplitude(0, 15), 50);
    }

    private void cutting() {
        b.sentence("section 3", "or if for a cut line of the source e is at least its FROM and at most "
                + "its UNTIL");
        RippleTank t = Bench.loaded("tank width 1 height 1 fade 0;train 0 0 50 70 5 90 10 50"
                + ";train 0 0 60 70 5 90 10 50;cut 0 20 25;cut 0 30 30;cut 1 12 13;cut 0 24 27"
                + ";cut 0 0 10;cut 0 49 9999");
        for (int time = 0; time <= 55; time++) {
            boolean first = time >= 11 && time <= 48 && !(time >= 20 && time <= 27) && time != 30;
            boolean second = time >= 10 && time <= 50 && time != 12 && time != 13;
            b.same("first at " + time, t.amplitude(0, time), first ? 50 : 0);
            b.same("second at " + time, t.amplitude(1, time), second ? 60 : 0);
        }
        RippleTank burst = oneCell("50 70 5 90 0 50", " burst 2 2;cut 0 4 4");
        int[] due = {50, 50, 0, 0, 0, 50, 0, 0, 50};
        for (int time = 0; time < due.length; time++) {
            b.same("cut of a burst at " + time, burst.amplitude(0, time), due[time]);
        }
    }

    private void bursting() {
        b.sentence("section 3", "for a burst, it is 0 instead if the remainder of e - FROM by ON + OFF is "
                + "not less than ON;");
        int[][] bursts = {{1, 1}, {2, 3}, {3, 1}, {1, 99}, {99, 1}, {99, 99}};
        for (int[] burst : bursts) {
            RippleTank t = oneCell("50 70 5 90 7 9999", " burst " + burst[0] + " " + burst[1]);
            int whole = burst[0] + burst[1];
            for (int start = 7; start < 8 + 2 * whole; start += whole) {
                b.same("before the start", t.amplitude(0, start - 1), 0);
                b.same("the start", t.amplitude(0, start), 50);
                b.same("the last of ON", t.amplitude(0, start + burst[0] - 1), 50);
                b.same("the first of OFF", t.amplitude(0, start + burst[0]), 0);
            }
        }
    }

    private void rising() {
        b.sentence("section 3", "for a rising train, it is AMP * k / RISE, rounded down, with k as the "
                + "smaller one of e - FROM + 1 and RISE");
        RippleTank t = oneCell("100 70 5 90 7 9999", " rising 3");
        int[] due = {0, 33, 66, 100, 100, 100};
        for (int i = 0; i < due.length; i++) {
            b.same("at " + (6 + i), t.amplitude(0, 6 + i), due[i]);
        }
        b.same("at once", oneCell("999 70 5 90 7 9", " rising 1").amplitude(0, 7), 999);
        RippleTank slow = oneCell("1 70 5 90 0 9999", " rising 99");
        b.same("just not yet", slow.amplitude(0, 97), 0);
        b.same("just", slow.amplitude(0, 98), 1);
        b.same("for good", slow.amplitude(0, 99), 1);
        RippleTank strong = oneCell("999 70 5 90 0 9999", " rising 99");
        b.same("the first part", strong.amplitude(0, 0), 10);
        b.same("the last but one", strong.amplitude(0, 97), 988);
        b.same("the last", strong.amplitude(0, 98), 999);
        b.same("the end", strong.amplitude(0, 9999), 999);
    }

    private void sines() {
        RippleTank t = new RippleTank();
        b.sentence("section 3", "4000 * a * (180 - a) / (40500 - a * (180 - a)), rounded down;");
        b.same("0", t.sine(0), 0);
        b.same("1, 17.76", t.sine(1), 17);
        b.same("2, 35.47", t.sine(2), 35);
        b.same("30, 500 exactly", t.sine(30), 500);
        b.same("89, 999.8", t.sine(89), 999);
        b.same("90", t.sine(90), 1000);
        b.same("91", t.sine(91), 999);
        b.same("150", t.sine(150), 500);
        b.same("179", t.sine(179), 17);
        for (int a = 0; a < 180; a++) {
            int above = 4000 * a * (180 - a);
            int below = 40500 - a * (180 - a);
            b.same("not too great at " + a, t.sine(a) * below <= above, true);
            b.same("not too small at " + a, (t.sine(a) + 1) * below > above, true);
        }
        b.sentence("section 3", "for other angles it is the negative of the sine of a - 180.");
        for (int angle = 0; angle < 180; angle++) {
            b.same("of " + (angle + 180), t.sine(angle + 180), -t.sine(angle));
            b.same("mirrored " + angle, angle == 0 ? 0 : t.sine(180 - angle), t.sine(angle));
        }
        b.sentence("promise 18", "Returns -1000 to 1000.");
        b.same("the least", t.sine(270), -1000);
        b.same("the greatest", t.sine(90), 1000);
        b.sentence("promise 18", "Throws `IllegalArgumentException` if angle is out of range");
        b.refusedAll("angle", Bench.ARGUMENT, a -> t.sine(a), -1, 360, 540, -180);
    }

    private void shapes() {
        b.sentence("section 3", "for square, 1000 if the angle is less than 180, otherwise -1000;");
        int[] angles = {0, 1, 179, 180, 181, 359};
        int[] square = {999, 999, 999, -999, -999, -999};
        // The values of the saw are -1000, -995, -6, 0, 5 and 994.
        int[] saw = {-999, -994, -5, 0, 4, 993};
        int[] smooth = {0, 16, 16, 0, -16, -16};
        for (int i = 0; i < angles.length; i++) {
            b.same("square at " + angles[i], oneCell("999 70 5 " + angles[i] + " 0 9",
                    ";shape 0 square").wave(0, 0), square[i]);
        }
        b.sentence("section 3", "for saw, the angle * 1000 / 180, rounded down, minus 1000.");
        for (int i = 0; i < angles.length; i++) {
            b.same("saw at " + angles[i], oneCell("999 70 5 " + angles[i] + " 0 9",
                    ";shape 0 saw").wave(0, 0), saw[i]);
        }
        b.sentence("section 3", "The value of a source at an angle is the sine, or, with a shape line:");
        for (int i = 0; i < angles.length; i++) {
            b.same("no shape at " + angles[i], oneCell("999 70 5 " + angles[i] + " 0 9", "")
                    .wave(0, 0), smooth[i]);
        }
    }

    private void anglesOfPaths() {
        b.sentence("section 3", "the angle at the time t is the remainder, from 0 to 359, of PHASE + 360 "
                + "* t / PERIOD - 360 * p / LENGTH by 360, both quotients being rounded down;");
        // 360 * 100 / 9999 is 3.6 and 360 / 99 is 3.63.
        int[] phases = {0, 2, 3, 4, 356, 359};
        int[] way = {357, 359, 0, 1, 353, 356};
        int[] later = {3, 5, 6, 7, 359, 2};
        for (int i = 0; i < phases.length; i++) {
            RippleTank t = Bench.loaded("tank width 2 height 1 fade 0;train 0 0 1 9999 99 " + phases[i]
                    + " 0 9999");
            b.same("PHASE " + phases[i], t.phase(0, 0, 0), phases[i]);
            b.same("PHASE " + phases[i] + " a cell on", t.phase(0, 1, 0), way[i]);
            t.advance(1);
            b.same("PHASE " + phases[i] + " later", t.phase(0, 0, 0), later[i]);
            b.same("PHASE " + phases[i] + " both", t.phase(0, 1, 0), phases[i]);
        }
        RippleTank last = Bench.loaded("tank width 16 height 10 fade 0;train 0 0 1 50 99 359 0 9999");
        // 360 * 1749 / 50 is 12592.8, 35 * 360 less 8.
        b.same("the farthest", last.phase(0, 15, 9), 359 + 8 - 360);
        for (int i = 0; i < 10; i++) {
            last.advance(999);
        }
        last.advance(9);
        // 360 * 9999 / 99 is 101 * 360.
        b.same("at the last time", last.phase(0, 15, 9), 7);
        b.same("at the last time, itself", last.phase(0, 0, 0), 359);
    }

    private void delays() {
        b.sentence("section 3", "the delay is p * PERIOD / LENGTH, rounded down.");
        int[][] trains = {{100, 2, 2}, {101, 2, 1}, {200, 2, 1}, {201, 2, 0}, {9999, 99, 0},
            {50, 99, 198}, {100, 99, 99}, {9900, 99, 1}, {9901, 99, 0}};
        for (int[] train : trains) {
            RippleTank t = Bench.loaded("tank width 2 height 1 fade 0;train 0 0 1 " + train[0] + " "
                    + train[1] + " 0 6 9");
            b.same("LENGTH " + train[0] + ", PERIOD " + train[1], t.arrival(0, 1, 0), 6 + train[2]);
            b.same("no way, no delay", t.arrival(0, 0, 0), 6);
        }
        b.sentence("promise 24", "FROM plus the delay of this path (section 3), by where the source is "
                + "now.");
        RippleTank far = Bench.loaded("tank width 16 height 10 fade 0;train 0 0 1 50 99 0 9999 9999");
        b.same("the latest", far.arrival(0, 15, 9), 9999 + 3463);
        RippleTank t = Bench.loaded("tank width 5 height 1 fade 0;train 0 0 1 100 4 0 9 9;drift 0 50 0");
        b.same("at rest", t.arrival(0, 4, 0), 9 + 16);
        t.advance(1);
        b.same("not yet nearer", t.arrival(0, 4, 0), 9 + 16);
        t.advance(1);
        b.same("nearer", t.arrival(0, 4, 0), 9 + 12);
        t.advance(997);
        b.same("there", t.arrival(0, 4, 0), 9);
    }

    private void reachedCells() {
        b.sentence("promise 25", "Returns the number of cells that a path of a source leads to and whose "
                + "arrival (see above) from it is at most the time.");
        RippleTank t = Bench.loaded("tank width 4 height 1 fade 0;train 0 0 1 100 3 0 2 2;off 0");
        int[] due = {0, 0, 1, 1, 1, 2, 2, 2, 3, 3, 3, 4, 4};
        for (int time = 0; time < due.length; time++) {
            b.same("at " + time, t.reached(0), due[time]);
            t.advance(1);
        }
        RippleTank walled = Bench.loaded(WALLED);
        b.same("at once", walled.reached(0), 1);
        walled.advance(900);
        b.same("all but a closed row", walled.reached(0), 14);
        walled.turnRow(0);
        b.same("two closed rows", walled.reached(0), 13);
        walled.turnRow(2);
        b.same("nothing behind the wall", walled.reached(0), 6);
        RippleTank all = Bench.loaded("tank width 16 height 10 fade 0;train 0 0 1 9999 2 0 0 0");
        b.same("160 at once", all.reached(0), 160);
    }
}
