/** The boundaries of promises 47 to 65 and of section 7, sentence by sentence. */
public final class ChangeBoundsTest {
    /** A train that is everywhere 100 at even times and -100 at odd ones, without a delay. */
    private static final String FLAT = "train 0 0 100 9999 2 90 0 9999;shape 0 square";
    /** A flat train of 900 whose waves fade in a row: 900, 450, 300, 225, 180. */
    private static final String FADING = "tank width 5 height 1 fade 100"
            + ";train 0 0 900 9999 2 90 0 9999;shape 0 square";
    private static final String WALLED = "tank width 5 height 3 fade 0 wall 2"
            + ";train 0 1 100 100 4 90 0 9999;slit 0 0;slit 2 2";
    private static final String OPEN = "tank width 5 height 3 fade 0;train 0 1 100 100 4 90 0 9999";

    private final Bench b = new Bench();

    public static void main(String[] args) {
        ChangeBoundsTest test = new ChangeBoundsTest();
        test.writtenRows();
        test.writtenMaps();
        test.writtenBytes();
        test.nodesIfOff();
        test.bestPhases();
        test.bestPlaces();
        test.turnedRows();
        test.bestRows();
        test.advancing();
        test.switching();
        test.numbersOfSources();
        test.moving();
        test.drifting();
        test.turningRows();
        test.undoing();
        test.eightChanges();
        test.whatUndoSkips();
        test.whatSavesAlter();
        test.saving();
        test.restoring();
        test.listedFirst();
        test.questions();
        test.questionsAfterChanges();
        test.b.end();
    }

    private static RippleTank oneCell(String train, String lines) {
        return Bench.loaded("tank width 1 height 1 fade 0;train 0 0 " + train + lines);
    }

    private void written(String what, RippleTank t, int length, String due) {
        b.same(what + ", length", length, due.length());
        b.same(what, Bench.textOf(t, length), due);
        b.refused(what + ", one byte more", Bench.INDEX, () -> t.textByte(length));
    }

    // ---- promises 47 to 49

    private void writtenRows() {
        b.sentence("promise 47", "Writes the waves of a row now, by columns, separated by commas,");
        RippleTank t = Bench.loaded(FADING);
        written("five columns", t, t.writeRow(0), "900,450,300,225,180");
        t.advance(1);
        written("negative", t, t.writeRow(0), "-900,-450,-300,-225,-180");
        RippleTank one = oneCell("7 9999 2 90 0 9999", "");
        written("one column", one, one.writeRow(0), "7");
        RippleTank rows = Bench.loaded("tank width 2 height 2 fade 0;" + FLAT + ";shoal 0 1 0 1 50"
                + ";shoal 1 1 1 1 0");
        written("the first row", rows, rows.writeRow(0), "100,100");
        written("the last row", rows, rows.writeRow(1), "50,0");
        b.sentence("promise 47", "Numbers have no leading zeros, negative ones a minus sign.");
        int[] amps = {1, 9, 10, 99, 100, 101, 999};
        for (int amp : amps) {
            one.setAmp(0, amp);
            one.setPhase(0, 90);
            written("" + amp, one, one.writeRow(0), "" + amp);
            one.setPhase(0, 270);
            written("-" + amp, one, one.writeRow(0), "-" + amp);
        }
        one.setOn(0, false);
        written("0", one, one.writeRow(0), "0");
        String most = "tank width 16 height 1 fade 0" + ";train 0 0 999 9999 2 270 0 9999".repeat(4)
                + ";shape 0 square;shape 1 square;shape 2 square;shape 3 square"
                + ";mirror left 100;mirror right 100;mirror top 100;mirror bottom 100"
                + ";shoal 0 0 15 0 200".repeat(3);
        RippleTank longest = Bench.loaded(most);
        StringBuilder row = new StringBuilder().append(longest.wave(0, 0));
        for (int x = 1; x < 16; x++) {
            row.append(',').append(longest.wave(x, 0));
        }
        written("sixteen long numbers", longest, longest.writeRow(0), row.toString());
        RippleTank six = Bench.loaded(most.replace("width 16", "width 1").replace("15 0 200", "0 0 200"));
        written("the least wave", six, six.writeRow(0), "-159840");
        six.advance(1);
        written("the greatest wave", six, six.writeRow(0), "159840");
    }

    private void writtenMaps() {
        b.sentence("promise 48", "for each cell, row by row, the digit 9 * energy / the greatest energy, "
                + "rounded down (0 if that is 0); rows are separated by semicolons.");
        // Parts of 1, 1/4, 1/9, 1/16 and 1/25: 9, 2.25, 1 exactly, 0.56 and 0.36.
        RippleTank t = Bench.loaded(FADING);
        written("one row", t, t.writeMap(40), "92100");
        t.setAmp(0, 901);
        // 901, 450 and 300: the third one is just less than a ninth.
        written("just less", t, t.writeMap(1), "92000");
        RippleTank rows = Bench.loaded("tank width 2 height 3 fade 0;" + FLAT + ";shoal 0 1 0 1 50"
                + ";shoal 1 1 1 1 0;shoal 1 2 1 2 99");
        written("three rows", rows, rows.writeMap(1), "99;20;98");
        rows.setOn(0, false);
        written("the greatest is 0", rows, rows.writeMap(40), "00;00;00");
        RippleTank one = oneCell("7 9999 2 90 0 9999", "");
        written("one cell", one, one.writeMap(1), "9");
        RippleTank column = Bench.loaded("tank width 1 height 3 fade 0;" + FLAT);
        written("one column", column, column.writeMap(1), "9;9;9");
        RippleTank all = Bench.loaded("tank width 16 height 10 fade 0;" + FLAT);
        written("160 cells", all, all.writeMap(40), "9999999999999999;".repeat(9)
                + "9999999999999999");
        RippleTank loud = oneCell("999 9999 2 90 0 9999", ";shape 0 square"
                + ";shoal 0 0 0 0 200".repeat(3));
        written("energies beyond int", loud, loud.writeMap(40), "9");
        b.sentence("promise 48", "Throws `IllegalArgumentException` if n is out of range");
        b.refusedAll("n", Bench.ARGUMENT, n -> t.writeMap(n), 0, 41);
    }

    private void writtenBytes() {
        b.sentence("promise 49", "Throws `IndexOutOfBoundsException` if there is no such byte (always, "
                + "before the first text)");
        RippleTank none = new RippleTank();
        b.refusedAll("no tank", Bench.INDEX, i -> none.textByte(i), -1, 0, 1);
        b.refused("a text of no tank", Bench.STATE, () -> none.writeRow(0));
        b.refusedAll("no tank still", Bench.INDEX, i -> none.textByte(i), -1, 0, 1);
        RippleTank t = Bench.loaded(FADING);
        b.refusedAll("no text", Bench.INDEX, i -> t.textByte(i), -1, 0, 1);
        b.refused("a row that is not there", Bench.INDEX, () -> t.writeRow(1));
        b.refused("no time", Bench.ARGUMENT, () -> t.writeMap(0));
        b.refusedAll("no text still", Bench.INDEX, i -> t.textByte(i), -1, 0, 1);
        b.same("a row", t.writeRow(0), 19);
        b.same("the first byte", t.textByte(0), (int) '9');
        b.same("the last byte", t.textByte(18), (int) '0');
        b.refusedAll("beyond the row", Bench.INDEX, i -> t.textByte(i), -1, 19);
        b.sentence("promise 49", "Returns a byte of the text that was written last.");
        b.same("a shorter text", t.writeMap(1), 5);
        b.same("its first byte", t.textByte(0), (int) '9');
        b.same("its last byte", t.textByte(4), (int) '0');
        b.refusedAll("beyond the map", Bench.INDEX, i -> t.textByte(i), -1, 5, 18);
        b.refused("a row that is not there", Bench.INDEX, () -> t.writeRow(-1));
        b.refused("too many times", Bench.ARGUMENT, () -> t.writeMap(41));
        b.same("refused calls write nothing", Bench.textOf(t, 5), "92100");
        t.setAmp(0, 1);
        t.save(0);
        t.restore(0);
        b.same("changes write nothing", Bench.textOf(t, 5), "92100");
        Bench.load(t, OPEN);
        b.same("load writes nothing", Bench.textOf(t, 5), "92100");
    }

    // ---- promises 50 to 54

    private void nodesIfOff() {
        b.sentence("promise 50", "Returns the number of nodes that there would be if a source were off.");
        RippleTank t = Bench.loaded("tank width 2 height 1 fade 0;train 0 0 100 9999 2 90 0 9999"
                + ";train 0 0 40 9999 2 90 39 39;shape 0 square;shape 1 square");
        b.same("the second one left, 39 times", t.nodesIfOff(0, 39, 0), 2);
        b.same("the second one left, 40 times", t.nodesIfOff(0, 40, 0), 0);
        b.same("the second one left, at its amplitude", t.nodesIfOff(0, 40, 40), 2);
        b.same("the second one left, below it", t.nodesIfOff(0, 40, 39), 0);
        b.same("the first one left", t.nodesIfOff(1, 40, 99), 0);
        b.same("the first one left, at its amplitude", t.nodesIfOff(1, 40, 100), 2);
        b.same("both are on as before", t.isOn(0) && t.isOn(1), true);
        t.setOn(1, false);
        b.same("off already", t.nodesIfOff(1, 40, 99), 0);
        b.same("none left", t.nodesIfOff(0, 40, 0), 2);
        b.same("off as before", t.isOn(1), false);
        b.same("160 cells", Bench.loaded("tank width 16 height 10 fade 0;" + FLAT)
                .nodesIfOff(0, 40, 0), 160);
    }

    private void bestPhases() {
        b.sentence("promise 51", "of the multiples of 15 from 0 to 345, with which the energy of a cell "
                + "would be smallest.");
        // Against two trains of half the amplitude: the phase, or the other one of the same sine.
        for (int phase = 0; phase < 360; phase += 15) {
            RippleTank t = oneCell("900 9999 2 0 0 9999", ";train 0 0 450 9999 2 "
                    + (phase + 180) % 360 + " 0 9999;train 0 0 450 9999 2 " + (phase + 180) % 360
                    + " 0 9999");
            b.same("against " + (phase + 180) % 360, t.bestPhase(0, 0, 0, 1), sineTwin(phase));
        }
        b.sentence("promise 51", "Returns the PHASE, of several the smallest one.");
        RippleTank far = Bench.loaded("tank width 2 height 1 fade 0;train 0 0 1 100 2 77 9 9");
        b.same("all alike", far.bestPhase(0, 1, 0, 9), 0);
        RippleTank square = oneCell("9 9999 2 200 0 9999", ";shape 0 square;train 0 0 9 9999 2 90 0 9999"
                + ";shape 1 square");
        b.same("twelve alike, 180 the first of them", square.bestPhase(0, 0, 0, 40), 180);
        RippleTank other = oneCell("9 9999 2 200 0 9999", ";shape 0 square;train 0 0 9 9999 2 270 0 9999"
                + ";shape 1 square");
        b.same("twelve alike, 0 the first of them", other.bestPhase(0, 0, 0, 40), 0);
        b.same("as before", square.property(0, 3), 200);
        RippleTank off = oneCell("9 9999 2 200 0 9999", ";off 0");
        b.same("off", off.bestPhase(0, 0, 0, 40), 0);
        b.same("a saw at its middle", oneCell("999 9999 2 5 0 9", ";shape 0 saw").bestPhase(0, 0, 0, 1),
                180);
        // Of the cells in the diagonal none is reached as early as this one.
        RippleTank corner = Bench.loaded("tank width 4 height 2 fade 0;train 3 0 9 100 2 90 0 9999"
                + ";train 3 0 9 100 2 90 0 9999");
        b.same("a cell off the diagonal", corner.bestPhase(0, 3, 0, 1), 270);
        b.same("another one", corner.bestPhase(0, 0, 1, 1), 0);
        RippleTank last = oneCell("9 9999 2 0 0 9999", ";shape 0 saw;train 0 0 8 9999 2 270 0 9999"
                + ";shape 1 square");
        // The saw of 345 is 916 of 1000: 8 of 9, as much as the square of -8.
        b.same("345, the last one", last.bestPhase(0, 0, 0, 1), 345);
    }

    /** The smallest phase whose sine is that of a phase: 0 and 180, 15 and 165, 195 and 345. */
    private static int sineTwin(int phase) {
        int twin = phase <= 180 ? 180 - phase : 540 - phase;
        return Math.min(phase, twin);
    }

    private void bestPlaces() {
        b.sentence("promise 52", "Finds the cell at which X and Y of a source would make the energy of a "
                + "cell smallest.");
        RippleTank t = Bench.loaded(FADING);
        b.same("the farthest", t.bestPlace(0, 0, 0, 40), 4);
        b.same("the farthest, the other way", t.bestPlace(0, 4, 0, 40), 0);
        b.same("as before", t.sourceAt(0, 0, 0), 0);
        RippleTank wide = Bench.loaded("tank width 16 height 10 fade 100;train 3 3 900 9999 2 90 0 9999"
                + ";shape 0 square");
        b.same("the last cell", wide.bestPlace(0, 0, 0, 1), 159);
        b.same("the first cell", wide.bestPlace(0, 15, 9, 1), 0);
        b.same("the end of the first row", wide.bestPlace(0, 0, 9, 1), 15);
        b.same("the start of the last row", wide.bestPlace(0, 15, 0, 1), 144);
        b.sentence("promise 52", "Returns y * WIDTH + x of this place, of several the smallest one.");
        b.same("all four corners", Bench.loaded("tank width 3 height 3 fade 100"
                + ";train 1 1 900 9999 2 90 0 9999;shape 0 square").bestPlace(0, 1, 1, 40), 0);
        b.same("all cells", Bench.loaded("tank width 3 height 3 fade 0;train 1 1 90 9999 2 90 0 9999"
                + ";shape 0 square").bestPlace(0, 1, 1, 40), 0);
        b.same("both ends", Bench.loaded("tank width 3 height 1 fade 100;train 1 0 900 9999 2 90 0 9"
                + ";shape 0 square").bestPlace(0, 1, 0, 1), 0);
        RippleTank off = Bench.loaded("tank width 3 height 3 fade 100;train 1 1 900 9999 2 90 0 9;off 0");
        b.same("off", off.bestPlace(0, 1, 1, 40), 0);
        b.same("one cell", oneCell("7 70 5 90 0 9", "").bestPlace(0, 0, 0, 40), 0);
        RippleTank drifting = Bench.loaded(FADING + ";drift 0 99 0");
        drifting.advance(102);
        // Wherever it starts from, it has drifted to the end but from before it.
        b.same("with its drift", drifting.bestPlace(0, 4, 0, 1), 0);
        drifting.setDrift(0, 2, 0);
        b.same("two cells on", drifting.bestPlace(0, 0, 0, 1), 2);
        // Only a place that is in the tank is looked at, so that the last row cannot be reached.
        RippleTank back = Bench.loaded("tank width 2 height 5 fade 100;train 0 2 900 9999 2 90 0 9999"
                + ";shape 0 square;drift 0 0 -1");
        back.advance(100);
        b.same("never the last row", back.bestPlace(0, 0, 0, 1), 9);
        RippleTank on = Bench.loaded("tank width 5 height 1 fade 100;train 2 0 900 9999 2 90 0 9999"
                + ";shape 0 square;drift 0 1 0");
        on.advance(100);
        b.same("never the first column", on.bestPlace(0, 4, 0, 1), 0);
        RippleTank rows = Bench.loaded("tank width 2 height 2 fade 100;train 1 0 900 9999 2 90 0 9999"
                + ";shape 0 square;drift 0 1 0");
        rows.advance(100);
        b.same("always the last column", rows.bestPlace(0, 1, 1, 1), 0);
    }

    private void turnedRows() {
        b.sentence("promise 53", "Returns the energy that a cell would have if a row of the wall were "
                + "closed instead of open, or open instead of closed.");
        RippleTank t = Bench.loaded("tank width 3 height 3 fade 0 wall 1;" + FLAT);
        b.same("the first one opened", t.energyIfTurned(2, 0, 0, 1), 10000);
        b.same("the last one opened", t.energyIfTurned(2, 0, 2, 40), 400000);
        b.same("its own cell opened", t.energyIfTurned(1, 1, 1, 1), 10000);
        b.same("another cell opened", t.energyIfTurned(1, 1, 0, 1), 0);
        t.turnRow(1);
        b.same("the only one closed", t.energyIfTurned(2, 0, 1, 40), 0);
        b.same("its own cell closed", t.energyIfTurned(1, 1, 1, 40), 0);
        b.same("this side", t.energyIfTurned(0, 0, 1, 1), 10000);
        b.same("as before", t.openRows(), 2);
        b.same("no change to undo", t.undoable(), 1);
        b.sentence("promise 53", "Returns the energy; -1 if there is no wall.");
        RippleTank open = Bench.loaded(OPEN);
        b.same("no wall", open.energyIfTurned(4, 2, 2, 40), -1);
        b.same("a wall, no energy", t.energyIfTurned(2, 0, 1, 1), 0);
        b.refusedAll("row, no wall", Bench.INDEX, r -> open.energyIfTurned(0, 0, r, 1), -1, 3);
        b.refusedAll("n, no wall", Bench.ARGUMENT, n -> open.energyIfTurned(0, 0, 0, n), 0, 41);
    }

    private void bestRows() {
        b.sentence("promise 54", "Returns the row, of several the smallest one; NONE if there is no "
                + "wall.");
        RippleTank open = Bench.loaded(OPEN);
        b.same("no wall", open.bestRow(4, 2, 40), RippleTank.NONE);
        b.refusedAll("n, no wall", Bench.ARGUMENT, n -> open.bestRow(0, 0, n), 0, 41);
        b.refusedAll("x, no wall", Bench.INDEX, x -> open.bestRow(x, 0, 1), -1, 5);
        b.refusedAll("y, no wall", Bench.INDEX, y -> open.bestRow(0, y, 1), -1, 3);
        RippleTank flat = Bench.loaded("tank width 3 height 10 fade 0 wall 1;" + FLAT);
        b.same("all alike", flat.bestRow(2, 0, 40), 0);
        b.same("all alike, this side", flat.bestRow(0, 0, 40), 0);
        for (int row = 0; row < 10; row++) {
            b.same("its own row " + row, flat.bestRow(1, row, 40), row);
        }
        flat.setOn(0, false);
        b.same("no energy at all", flat.bestRow(2, 9, 40), 0);
        RippleTank one = Bench.loaded("tank width 3 height 1 fade 0 wall 1;" + FLAT);
        b.same("the only row, opened", one.bestRow(2, 0, 1), 0);
        one.turnRow(0);
        b.same("the only row, closed", one.bestRow(2, 0, 1), 0);
        b.same("its own cell", one.bestRow(1, 0, 1), 0);
        RippleTank fading = Bench.loaded("tank width 3 height 10 fade 100 wall 1"
                + ";train 0 9 900 9999 2 90 0 9999;shape 0 square");
        b.same("the shortest way, the last row", fading.bestRow(2, 9, 1), 9);
        fading.moveSource(0, 0, 4);
        b.same("the shortest way, row 4", fading.bestRow(2, 4, 40), 4);
        b.same("as before", fading.openRows(), 0);
    }

    // ---- promises 55 to 61

    private void advancing() {
        b.sentence("promise 55", "Throws `IllegalArgumentException` if n is out of range, or the time "
                + "would be greater than 9999");
        RippleTank t = Bench.loaded(OPEN);
        b.refusedAll("n", Bench.ARGUMENT, n -> t.advance(n), 0, -1, 1000);
        b.same("the least", t.advance(1), 1);
        b.same("the greatest", t.advance(999), 1000);
        for (int time = 1999; time < 9999; time += 999) {
            b.same("on", t.advance(999), time);
        }
        b.same("so far", t.time(), 9991);
        b.refusedAll("beyond 9999", Bench.ARGUMENT, n -> t.advance(n), 9, 10, 999);
        b.same("not changed", t.time(), 9991);
        b.same("to 9999", t.advance(8), 9999);
        b.refusedAll("at the end", Bench.ARGUMENT, n -> t.advance(n), 0, 1, 999);
        b.same("not changed", t.time(), 9999);
        b.same("eight changes", t.undoable(), 8);
        t.undo();
        b.same("undone", t.time(), 9991);
        b.same("to 9998", t.advance(7), 9998);
        b.same("to 9999 again", t.advance(1), 9999);
    }

    private void switching() {
        b.sentence("promise 56", "Switches a source on or off. This is a change, even if it is so "
                + "already.");
        RippleTank t = Bench.loaded(OPEN + ";train 1 1 1 50 2 0 0 0;off 1");
        b.same("on already", t.setOn(0, true), true);
        b.same("a change", t.undoable(), 1);
        b.same("off already", t.setOn(1, false), false);
        b.same("another change", t.undoable(), 2);
        b.same("still on", t.isOn(0), true);
        b.same("still off", t.isOn(1), false);
        b.same("undone", t.undo(), 1);
        b.same("undone, too", t.undo(), 0);
        b.sentence("promise 56", "Returns whether it was on before.");
        b.same("it was on", t.setOn(0, false), true);
        b.same("it was off", t.setOn(0, true), false);
        b.same("the other one was off", t.setOn(1, true), false);
        b.refusedAll("source", Bench.INDEX, s -> t.setOn(s, true), -1, 2);
    }

    private void numbersOfSources() {
        RippleTank t = Bench.loaded(OPEN + ";train 1 1 1 50 2 0 0 0");
        b.sentence("promise 57", "Throws `IllegalArgumentException` if phase is out of range");
        b.refusedAll("phase", Bench.ARGUMENT, p -> t.setPhase(0, p), -1, 360);
        b.same("nothing is changed", t.undoable() + t.property(0, 3), 90);
        b.sentence("promise 57", "Returns the previous PHASE.");
        b.same("the first", t.setPhase(0, 0), 90);
        b.same("the least", t.setPhase(0, 359), 0);
        b.same("the greatest", t.setPhase(0, 359), 359);
        b.same("a change, even if it is so already", t.undoable(), 3);
        b.same("another source", t.setPhase(1, 7), 0);
        b.same("not this one", t.property(0, 3), 359);
        b.sentence("promise 58", "Throws `IllegalArgumentException` if amp is out of range");
        b.refusedAll("amp", Bench.ARGUMENT, a -> t.setAmp(0, a), 0, 1000);
        b.same("nothing is changed", t.undoable() * 1000 + t.property(0, 0), 4100);
        b.sentence("promise 58", "Returns the previous AMP.");
        b.same("the first", t.setAmp(0, 1), 100);
        b.same("the least", t.setAmp(0, 999), 1);
        b.same("the greatest", t.setAmp(0, 999), 999);
        b.same("another source", t.setAmp(1, 7), 1);
        b.same("not this one", t.property(0, 0), 999);
        RippleTank rising = oneCell("100 70 5 90 0 9", " rising 2");
        rising.setAmp(0, 9);
        b.same("its amplitudes", rising.amplitude(0, 0) * 10 + rising.amplitude(0, 1), 49);
    }

    private void moving() {
        b.sentence("promise 59", "Returns y * WIDTH + x of where it is now (section 2).");
        RippleTank t = Bench.loaded(OPEN + ";train 1 1 1 50 2 0 0 0");
        for (int cell = 0; cell < 15; cell++) {
            b.same("to " + cell, t.moveSource(0, cell % 5, cell / 5), cell);
        }
        b.same("not the other one", t.sourceAt(1, 0, 0) + 5 * t.sourceAt(1, 1, 0), 6);
        b.sentence("promise 59", "Throws `IndexOutOfBoundsException` if there is no such source or cell");
        b.refusedAll("x", Bench.INDEX, x -> t.moveSource(0, x, 0), -1, 5);
        b.refusedAll("y", Bench.INDEX, y -> t.moveSource(0, 0, y), -1, 3);
        b.refusedAll("source", Bench.INDEX, s -> t.moveSource(s, 0, 0), -1, 2);
        b.same("not moved", t.sourceAt(0, 0, 0) + 5 * t.sourceAt(0, 1, 0), 14);
        t.setDrift(0, 1, -1);
        t.advance(200);
        b.same("two columns on and two rows back", t.moveSource(0, 0, 2), 2);
        b.same("just at the end", t.moveSource(0, 2, 2), 4);
        b.same("beyond both ends", t.moveSource(0, 3, 1), 4);
        t.undo();
        t.undo();
        t.undo();
        b.same("X as it was", t.sourceAt(0, 0, 0), 4);
    }

    private void drifting() {
        b.sentence("promise 60", "Throws `IllegalArgumentException` if vx or vy is out of range");
        RippleTank t = Bench.loaded("tank width 16 height 10 fade 0;train 8 5 1 50 2 0 0 0"
                + ";drift 0 1 1");
        b.refusedAll("vx", Bench.ARGUMENT, v -> t.setDrift(0, v, 0), -100, 100);
        b.refusedAll("vy", Bench.ARGUMENT, v -> t.setDrift(0, 0, v), -100, 100);
        b.same("not changed", t.sourceAt(0, 0, 100) * 10 + t.sourceAt(0, 1, 100), 96);
        b.sentence("promise 60", "Returns y * WIDTH + x of where it is now.");
        b.same("at time 0", t.setDrift(0, 99, 99), 8 + 16 * 5);
        t.advance(4);
        // 99 * 4 / 100 is 3.
        b.same("the greatest", t.setDrift(0, 99, 99), 11 + 16 * 8);
        b.same("the least", t.setDrift(0, -99, -99), 5 + 16 * 2);
        b.same("either", t.setDrift(0, 99, -99), 11 + 16 * 2);
        b.same("at rest", t.setDrift(0, 0, 0), 8 + 16 * 5);
        b.same("just no cell", t.setDrift(0, 24, -24), 8 + 16 * 5);
        b.same("just a cell", t.setDrift(0, 25, -25), 9 + 16 * 4);
        t.advance(900);
        b.same("outside, the greatest", t.setDrift(0, 99, 99), 159);
        b.same("outside, the least", t.setDrift(0, -99, -99), 0);
    }

    private void turningRows() {
        b.sentence("promise 61", "Opens a row of the wall that is closed, or closes one that is open. This "
                + "is a change.");
        RippleTank t = Bench.loaded("tank width 1 height 10 fade 0 wall 0;slit 0 0;" + FLAT);
        b.same("the first one closes", t.turnRow(0), false);
        b.same("none is open", t.openRows(), 0);
        b.same("the last one opens", t.turnRow(9), true);
        b.same("it alone is open", t.openRows(), 512);
        b.same("the first one opens", t.turnRow(0), true);
        b.same("both are open", t.openRows(), 513);
        b.same("three changes", t.undoable(), 3);
        b.refusedAll("row", Bench.INDEX, r -> t.turnRow(r), -1, 10, 32);
        b.same("not changed", t.openRows() * 10 + t.undoable(), 5133);
        b.sentence("promise 61", "Throws `IllegalStateException` if there is no tank or no wall");
        RippleTank open = Bench.loaded(OPEN);
        b.refusedAll("row without a wall", Bench.STATE, r -> open.turnRow(r), -1, 0, 2, 3);
        b.refusedAll("row without a tank", Bench.STATE, r -> new RippleTank().turnRow(r), -1, 0, 1);
        b.same("no change", open.undoable(), 0);
        b.same("no row", open.openRows(), 0);
    }

    // ---- section 7, promises 62 to 65

    private void change(RippleTank t, int kind) {
        switch (kind) {
            case 0: t.advance(7); break;
            case 1: t.setOn(0, !t.isOn(0)); break;
            case 2: t.setPhase(0, (t.property(0, 3) + 15) % 360); break;
            case 3: t.setAmp(0, t.property(0, 0) + 1); break;
            case 4: t.moveSource(0, (t.time() + t.property(0, 0)) % 5, 2); break;
            case 5: t.setDrift(0, 9, -9); break;
            case 6: t.turnRow(1); break;
            default: t.setOn(0, t.isOn(0));
        }
    }

    private void undoing() {
        b.sentence("section 7", "The methods that are documented as changes can be undone, the latest one "
                + "first.");
        for (int start = 0; start < 8; start++) {
            RippleTank t = Bench.loaded(WALLED);
            String[] views = new String[9];
            for (int i = 0; i < 8; i++) {
                views[i] = View.of(t);
                change(t, (start + i) % 8);
                b.same("changes after kind " + (start + i) % 8, t.undoable(), i + 1);
            }
            for (int i = 7; i >= 0; i--) {
                b.same("undo", t.undo(), i);
                b.same("as before kind " + (start + i) % 8, View.of(t), views[i]);
            }
        }
        b.sentence("promise 62", "Throws `IllegalStateException` if there is none");
        RippleTank t = Bench.loaded(WALLED);
        b.refused("no change", Bench.STATE, () -> t.undo());
        b.refused("no tank", Bench.STATE, () -> new RippleTank().undo());
        t.advance(1);
        b.same("one", t.undo(), 0);
        b.refused("no more", Bench.STATE, () -> t.undo());
        b.refused("no more again", Bench.STATE, () -> t.undo());
        b.same("nothing is changed", View.of(t), View.of(Bench.loaded(WALLED)));
    }

    private void eightChanges() {
        b.sentence("section 7", "Only the latest 8 changes since the last successful call of load or "
                + "restore are kept for this.");
        for (int count = 1; count <= 30; count++) {
            RippleTank t = Bench.loaded(WALLED);
            for (int i = 0; i < count; i++) {
                t.advance(i + 1);
            }
            int kept = Math.min(count, 8);
            b.same("after " + count, t.undoable(), kept);
            for (int i = 0; i < kept; i++) {
                b.same("undone of " + count, t.undo(), kept - 1 - i);
                int left = count - 1 - i;
                b.same("the time after it", t.time(), left * (left + 1) / 2);
            }
            b.refused("no more of " + count, Bench.STATE, () -> t.undo());
        }
        b.sentence("promise 63", "Returns 0 to 8.");
        RippleTank t = new RippleTank();
        b.same("no tank", t.undoable(), 0);
        Bench.load(t, WALLED);
        b.same("no change", t.undoable(), 0);
        for (int i = 1; i <= 20; i++) {
            t.advance(1);
            b.same("after " + i, t.undoable(), Math.min(8, i));
        }
        b.same("seven after an undo", t.undo(), 7);
        t.advance(50);
        b.same("eight again", t.undoable(), 8);
        t.advance(50);
        b.same("eight still", t.undoable(), 8);
        for (int i = 7; i >= 0; i--) {
            b.same("undo", t.undo(), i);
        }
        b.same("the oldest that is kept", t.time(), 13);
        b.same("undoable without any", t.undoable(), 0);
    }

    private void whatUndoSkips() {
        b.sentence("promise 62", "Undoes the latest change that was not undone yet.");
        RippleTank t = Bench.loaded(WALLED);
        t.advance(1);
        t.advance(2);
        t.undo();
        t.advance(4);
        b.same("two changes", t.undoable(), 2);
        t.undo();
        b.same("the second one is undone", t.time(), 1);
        t.undo();
        b.same("then the first one", t.time(), 0);
        t.advance(1);
        b.refused("no change", Bench.ARGUMENT, () -> t.advance(0));
        b.refused("no change, either", Bench.INDEX, () -> t.setOn(1, true));
        b.refused("nor this", Bench.ARGUMENT, () -> t.setPhase(0, 360));
        b.refused("nor this", Bench.ARGUMENT, () -> t.setAmp(0, 0));
        b.refused("nor this", Bench.INDEX, () -> t.moveSource(0, 5, 0));
        b.refused("nor this", Bench.ARGUMENT, () -> t.setDrift(0, 100, 0));
        b.refused("nor this", Bench.INDEX, () -> t.turnRow(3));
        t.save(0);
        t.writeRow(0);
        t.bestPlace(0, 0, 0, 1);
        b.same("one change still", t.undoable(), 1);
        b.same("it is undone", t.undo(), 0);
        b.same("the time before it", t.time(), 0);
        b.sentence("section 7", "The state consists of everything that changes alter.");
        RippleTank kept = Bench.loaded(WALLED);
        kept.advance(3);
        kept.save(1);
        kept.advance(2);
        kept.writeRow(1);
        String row = View.of(kept).replaceAll(".* written (\\S+) .*", "$1");
        Bench.append(kept, "tank");
        kept.undo();
        b.same("undo leaves the written text", View.of(kept).contains(" written " + row + " "), true);
        b.same("undo leaves the buffer", kept.buffered(), 20);
        kept.undo();
        b.same("undo leaves what is saved", kept.restore(1), 3);
    }

    private void whatSavesAlter() {
        b.sentence("section 7", "since the last successful call of load or restore");
        RippleTank t = Bench.loaded(WALLED);
        t.advance(1);
        b.refused("a load that fails", Bench.ARGUMENT, () -> Bench.load(t, "tank"));
        b.refused("a load of too much", Bench.INDEX, () -> t.load(1));
        b.refused("a restore of nothing", Bench.STATE, () -> t.restore(0));
        b.refused("a restore from nowhere", Bench.INDEX, () -> t.restore(2));
        b.same("the change is kept", t.undoable(), 1);
        t.save(0);
        b.same("save keeps it, too", t.undoable(), 1);
        t.restore(0);
        b.same("restore does not", t.undoable(), 0);
        b.refused("nothing to undo", Bench.STATE, () -> t.undo());
        b.same("the time stays", t.time(), 1);
        for (int i = 1; i <= 9; i++) {
            t.advance(1);
            b.same("changes since", t.undoable(), Math.min(8, i));
        }
        Bench.load(t, OPEN);
        b.same("load does not keep them", t.undoable(), 0);
        b.refused("nothing to undo", Bench.STATE, () -> t.undo());
        t.advance(5);
        t.undo();
        b.same("back to the start", t.time(), 0);
        b.refused("not beyond it", Bench.STATE, () -> t.undo());
    }

    private void saving() {
        b.sentence("promise 64", "Saves the state in a slot, in place of what was saved there.");
        RippleTank t = Bench.loaded(WALLED);
        b.same("slot 0", t.save(0), 0);
        t.advance(3);
        b.same("slot 1", t.save(1), 3);
        t.advance(4);
        b.same("slot 0 again", t.save(0), 7);
        t.advance(5);
        b.same("the later one", t.restore(0), 7);
        b.same("the other one", t.restore(1), 3);
        b.sentence("promise 64", "Throws `IndexOutOfBoundsException` if there is no such slot");
        b.refusedAll("slot", Bench.INDEX, s -> t.save(s), -1, 2);
        b.refusedAll("slot without a tank", Bench.STATE, s -> new RippleTank().save(s), -1, 0, 1, 2);
        b.same("nothing is saved by it", t.restore(0), 7);
        for (int kind = 0; kind < 8; kind++) {
            RippleTank s = Bench.loaded(WALLED);
            String before = View.of(s);
            s.save(kind % 2);
            change(s, kind);
            s.restore(kind % 2);
            b.same("saved before a change of kind " + kind, View.of(s), before);
            change(s, kind);
            String after = View.of(s).replaceAll("undoable \\d", "");
            s.save(kind % 2);
            s.undo();
            s.restore(kind % 2);
            b.same("saved after it", View.of(s).replaceAll("undoable \\d", ""), after);
        }
    }

    private void restoring() {
        b.sentence("promise 65", "Throws `IllegalStateException` if nothing is saved there");
        RippleTank t = Bench.loaded(WALLED);
        b.refused("slot 0", Bench.STATE, () -> t.restore(0));
        b.refused("slot 1", Bench.STATE, () -> t.restore(1));
        b.refused("slot 0, no tank", Bench.STATE, () -> new RippleTank().restore(0));
        b.refused("slot 1, no tank", Bench.STATE, () -> new RippleTank().restore(1));
        t.save(1);
        b.refused("slot 0 still", Bench.STATE, () -> t.restore(0));
        b.same("slot 1 then", t.restore(1), 0);
        b.sentence("promise 65", "Throws `IndexOutOfBoundsException` if there is no such slot");
        b.refusedAll("slot", Bench.INDEX, s -> t.restore(s), -1, 2);
        b.refusedAll("slot without a tank", Bench.INDEX, s -> new RippleTank().restore(s), -1, 2);
        b.sentence("promise 65", "Restores what was saved in a slot; it stays saved. Nothing can be undone "
                + "afterwards.");
        t.advance(9);
        t.save(0);
        for (int i = 0; i < 3; i++) {
            t.advance(1);
            b.same("again", t.restore(0), 9);
            b.same("nothing can be undone", t.undoable(), 0);
            b.same("the other slot stays, too", t.restore(1), 0);
        }
        t.restore(0);
        t.advance(1);
        b.same("undone to what was restored", t.undo(), 0);
        b.same("its time", t.time(), 9);
        b.refused("no more", Bench.STATE, () -> t.undo());
        b.sentence("promise 65", "Returns the time of the restored state.");
        b.same("9", t.restore(0), 9);
        b.same("0", t.restore(1), 0);
        for (int i = 0; i < 11; i++) {
            t.advance(909);
        }
        t.save(1);
        t.restore(0);
        b.same("9999", t.restore(1), 9999);
    }

    private void listedFirst() {
        b.sentence("section 7", "If several exceptions apply, the one that is listed first at the method "
                + "is thrown.");
        RippleTank none = new RippleTank();
        b.refused("no tank, no slot: restore", Bench.INDEX, () -> none.restore(2));
        b.refused("no tank, no slot: save", Bench.STATE, () -> none.save(2));
        b.refused("no tank, no row: turnRow", Bench.STATE, () -> none.turnRow(99));
        RippleTank open = Bench.loaded(OPEN);
        b.refused("no wall, no row: turnRow", Bench.STATE, () -> open.turnRow(3));
        b.refused("no row, no time", Bench.INDEX, () -> open.energyIfTurned(0, 0, 3, 0));
        b.refused("no source, no phase", Bench.INDEX, () -> open.setPhase(1, 360));
        b.refused("no cell, no time", Bench.INDEX, () -> open.bestPlace(0, 0, 3, 41));
        b.refused("no rank, no time", Bench.INDEX, () -> open.strongest(15, 41));
        b.refused("no bytes, an error", Bench.INDEX, () -> open.load(1));
        b.refused("no time for any tank", Bench.STATE, () -> none.advance(0));
    }

    private void questions() {
        b.sentence("section 7", "A question changes nothing.");
        RippleTank t = Bench.loaded(WALLED + ";train 4 2 50 100 4 90 0 9999;gauge 3 1");
        RippleTank twin = Bench.loaded(WALLED + ";train 4 2 50 100 4 90 0 9999;gauge 3 1");
        for (RippleTank one : new RippleTank[] {t, twin}) {
            one.advance(9);
            one.save(0);
            one.setPhase(1, 7);
        }
        for (int n = 1; n <= 40; n += 13) {
            t.nodesIfOff(0, n, 5);
            t.nodesIfOff(1, n, 5);
            t.bestPhase(1, 3, 1, n);
            t.bestPlace(0, 3, 1, n);
            t.energyIfTurned(3, 1, 0, n);
            t.bestRow(3, 1, n);
            t.nodeGroups(n, 50);
            t.strongest(0, n);
            t.rhythm(0, n);
            t.quietIn(3, 1, 0, n);
            b.same("what-if questions of " + n, View.of(t), View.of(twin));
        }
        b.same("to the end", View.ofWholeLife(t), View.ofWholeLife(twin));
        String small = "tank width 3 height 2 fade 0;train 0 0 100 100 4 90 0 9999;gauge 2 1";
        String great = "tank width 16 height 10 fade 0 wall 8;" + FLAT + ";gauge 9 9";
        RippleTank used = Bench.loaded(great);
        answers(used, 40);
        Bench.load(used, small);
        b.same("after the questions of a greater tank", answers(used, 2),
                answers(Bench.loaded(small), 2));
        answers(used, 40);
        b.same("after those of more times", answers(used, 1), answers(Bench.loaded(small), 1));
        b.same("after those of less times", answers(used, 40), answers(Bench.loaded(small), 40));
    }

    /** Whatever was changed, all questions see the tank that a text with these changes makes. */
    private void questionsAfterChanges() {
        b.sentence("section 7", "The state consists of everything that changes alter.");
        String lines = ";shape 1 square;mirror left 60;shoal 0 0 1 3 70;gauge 5 2;gauge 0 3";
        String before = "tank width 6 height 4 fade 500 wall 2;train 0 1 100 100 4 90 0 9999"
                + ";train 5 3 400 130 7 20 3 900;slit 1 2;drift 0 30 10" + lines;
        String after = "tank width 6 height 4 fade 500 wall 2;train 1 2 222 100 4 33 0 9999"
                + ";train 5 3 400 130 7 20 3 900;slit 0 0;slit 2 2;drift 0 - 20 50;off 1" + lines;
        RippleTank due = Bench.loaded(after);
        RippleTank t = Bench.loaded(before);
        t.moveSource(0, 1, 2);
        t.setAmp(0, 222);
        t.setPhase(0, 33);
        t.setDrift(0, -20, 50);
        t.setOn(1, false);
        t.turnRow(0);
        t.turnRow(1);
        for (int time = 0; time < 12; time += 3) {
            b.same("at " + time, answers(t, 3), answers(due, 3));
            t.advance(3);
            due.advance(3);
        }
        RippleTank other = Bench.loaded(before);
        for (RippleTank one : new RippleTank[] {t, other}) {
            Bench.load(one, before);
            one.advance(17);
            one.setPhase(1, 300);
            one.turnRow(3);
            one.moveSource(1, 1, 1);
        }
        // The other one is asked what would be if all of it were different.
        other.nodesIfOff(1, 1, 0);
        String asked = answers(other, 2);
        other.bestPlace(0, 0, 0, 1);
        other.energyIfTurned(0, 0, 2, 1);
        b.same("after no question", placesOf(t), placesOf(other));
        b.same("all answers", answers(t, 2), asked);
    }

    private static String placesOf(RippleTank t) {
        StringBuilder text = new StringBuilder();
        for (int source = 0; source < t.sources(); source++) {
            text.append(" reached ").append(t.reached(source));
            for (int cell = 0; cell < t.width() * t.height(); cell++) {
                int x = cell % t.width();
                int y = cell / t.width();
                text.append(' ').append(t.isBehind(source, x, y)).append(t.shortest(source, x, y));
                text.append(' ').append(t.phase(source, x, y)).append(' ');
                text.append(t.arrival(source, x, y)).append(' ').append(t.part(source, x, y));
                for (int row = 0; row < t.height(); row++) {
                    text.append(' ').append(t.path(source, x, y, row)).append(t.isOpen(row));
                }
                text.append(' ').append(t.wave(x, y)).append(' ').append(t.waveAt(x, y, 25));
                text.append(' ').append(t.quietIn(x, y, 5, 20)).append(' ');
                text.append(t.quietIn(x, y, 50, 20)).append(' ').append(t.amplitude(source, cell));
            }
        }
        return text.append(t.openRows()).toString();
    }

    private static String answers(RippleTank t, int n) {
        StringBuilder text = new StringBuilder(placesOf(t));
        for (int y = 0; y < t.height(); y++) {
            text.append(' ').append(t.nodeRows(y, n, 50)).append(' ').append(t.rowEnergy(y, n));
            for (int x = 0; x < t.width(); x++) {
                text.append(' ').append(t.isNode(x, y, n, 50)).append(t.isMark(x, y, n, 50));
                text.append(t.energy(x, y, n)).append(' ').append(t.bestRow(x, y, n));
                text.append(' ').append(t.energyIfTurned(x, y, 0, n)).append(' ');
            }
        }
        for (int x = 0; x < t.width(); x++) {
            text.append(' ').append(t.fringes(x, n)).append(' ').append(t.visibility(x, n));
        }
        text.append(' ').append(t.peak(0, n)).append(' ').append(t.crossings(0, n));
        text.append(' ').append(t.rhythm(0, n)).append(' ').append(t.nodes(n, 50));
        text.append(' ').append(t.nodeGroups(n, 50)).append(' ').append(t.allEnergy(n));
        text.append(' ').append(t.strongest(3, n)).append(' ').append(t.marks(n, 50));
        text.append(' ').append(t.nodesIfOff(0, n, 50)).append(' ').append(t.bestPhase(0, 1, 1, n));
        text.append(' ').append(t.bestPlace(0, 1, 1, n)).append(' ').append(t.writeMap(n));
        text.append(' ').append(Bench.textOf(t, t.writeMap(n)));
        return text.append(' ').append(Bench.textOf(t, t.writeRow(1))).toString();
    }
}
