/**
 * A ripple tank: sources emit trains of waves over a grid of cells, a wall with open rows lets them
 * through, and the sums of what arrives make nodes and fringes.
 */
public final class RippleTank {
    public static final int NONE = -1;

    private static final int MAX_BYTES = 900;
    private static final int BYTES_PER_APPEND = 20;
    private static final int MAX_COLUMNS = 16;
    private static final int MAX_ROWS = 10;
    private static final int MAX_CELLS = 160;
    private static final int MAX_SOURCES = 4;
    private static final int MAX_CUTS = 6;
    private static final int MAX_SHOALS = 3;
    private static final int MAX_GAUGES = 4;
    private static final int MAX_TIME = 9999;
    private static final int MAX_TIMES = 40;
    private static final int MAX_STEP = 999;
    private static final int MAX_QUIET_STEPS = 200;
    private static final int MAX_TOLERANCE = 9999;
    private static final int MAX_LAG = 20;
    private static final int MAX_AMP = 999;
    private static final int MAX_DRIFT = 99;
    private static final int FULL_TURN = 360;
    private static final int PHASE_STEP = 15;
    private static final int SLOTS = 2;

    private final byte[] input = new byte[MAX_BYTES];
    private int inputLength;
    private int errorCode;
    private int errorPlace = NONE;
    private boolean loaded;
    private Tank tank;
    private Tank draft;
    private final State state = new State();
    private final State trial = new State();
    private final History history = new History();
    private final State[] slots = new State[SLOTS];
    private final boolean[] filled = new boolean[SLOTS];
    private final Page page = new Page();
    private final NodeMap nodeMap = new NodeMap();
    private final long[] energies = new long[MAX_CELLS];
    private final int[] series = new int[MAX_TIMES + MAX_LAG];

    public RippleTank() {
        Ruler ruler = new Ruler();
        tank = new Tank(ruler);
        draft = new Tank(ruler);
        for (int slot = 0; slot < SLOTS; slot++) {
            slots[slot] = new State();
        }
    }

    // ---- input

    public int append(int a, int b, int c, int d, int e) {
        if (inputLength > MAX_BYTES - BYTES_PER_APPEND) {
            return NONE;
        }
        putBytes(a);
        putBytes(b);
        putBytes(c);
        putBytes(d);
        putBytes(e);
        return inputLength;
    }

    public int load(int n) throws IndexOutOfBoundsException, IllegalArgumentException {
        if (n < 0 || n > inputLength) {
            throw new IndexOutOfBoundsException("more bytes than the buffer holds");
        }
        inputLength = 0;
        // The trial state is free between calls, so the text's first state is built there.
        Parser parser = new Parser(input, n, draft, trial);
        parser.readText();
        errorCode = parser.errorCode;
        errorPlace = parser.errorPlace;
        if (errorCode != 0) {
            throw new IllegalArgumentException("the text has an error");
        }
        Tank previous = tank;
        tank = draft;
        draft = previous;
        state.copyFrom(trial);
        history.clear();
        for (int slot = 0; slot < SLOTS; slot++) {
            filled[slot] = false;
        }
        loaded = true;
        return tank.sourceCount;
    }

    public int parseError() {
        return errorCode;
    }

    public int errorPosition() {
        return errorPlace;
    }

    public int buffered() {
        return inputLength;
    }

    // ---- the tank

    public int time() {
        return loaded ? state.now : 0;
    }

    public int width() {
        return loaded ? tank.columns : 0;
    }

    public int height() {
        return loaded ? tank.rows : 0;
    }

    public int wall() throws IllegalStateException {
        needTank();
        return tank.wallColumn;
    }

    public int openRows() throws IllegalStateException {
        needTank();
        return state.open;
    }

    public boolean isOpen(int row) throws IllegalStateException, IndexOutOfBoundsException {
        needTank();
        needRow(row);
        return state.hasOpen(row);
    }

    public int sources() {
        return loaded ? tank.sourceCount : 0;
    }

    public int sourceAt(int source, int axis, int t)
            throws IllegalStateException, IndexOutOfBoundsException, IllegalArgumentException {
        needTank();
        needSource(source);
        needRange(axis, 0, 1);
        needRange(t, 0, MAX_TIME);
        return axis == 0 ? tank.columnOf(state, source, t) : tank.rowOf(state, source, t);
    }

    public int property(int source, int what)
            throws IllegalStateException, IndexOutOfBoundsException, IllegalArgumentException {
        needTank();
        needSource(source);
        needRange(what, 0, 5);
        switch (what) {
            case 0:
                return state.amps[source];
            case 1:
                return tank.trains[source].length;
            case 2:
                return tank.trains[source].period;
            case 3:
                return state.phases[source];
            case 4:
                return tank.trains[source].from;
            default:
                return tank.trains[source].until;
        }
    }

    public boolean isOn(int source) throws IllegalStateException, IndexOutOfBoundsException {
        needTank();
        needSource(source);
        return state.on[source];
    }

    public int amplitude(int source, int t)
            throws IllegalStateException, IndexOutOfBoundsException, IllegalArgumentException {
        needTank();
        needSource(source);
        needRange(t, 0, MAX_TIME);
        return tank.trains[source].emitted(state.amps[source], t);
    }

    // ---- phases and paths

    public int sine(int angle) throws IllegalArgumentException {
        needRange(angle, 0, FULL_TURN - 1);
        return Train.sineOf(angle);
    }

    public int distance(int dx, int dy) throws IllegalArgumentException {
        needRange(dx, 0, MAX_COLUMNS - 1);
        needRange(dy, 0, MAX_ROWS - 1);
        return tank.ruler.between(dx, dy);
    }

    public boolean isBehind(int source, int x, int y)
            throws IllegalStateException, IndexOutOfBoundsException {
        needTank();
        needSource(source);
        needCell(x, y);
        return tank.isShadowed(tank.columnOf(state, source, state.now), x);
    }

    public int path(int source, int x, int y, int row)
            throws IllegalStateException, IndexOutOfBoundsException {
        needTank();
        needSource(source);
        needCell(x, y);
        needRow(row);
        if (tank.wallColumn == NONE) {
            return NONE;
        }
        int fromX = tank.columnOf(state, source, state.now);
        int fromY = tank.rowOf(state, source, state.now);
        return tank.lengthThrough(row, fromX, fromY, x, y);
    }

    public int shortest(int source, int x, int y)
            throws IllegalStateException, IndexOutOfBoundsException {
        needTank();
        needSource(source);
        needCell(x, y);
        return tank.shortestLength(state, source, x, y);
    }

    public int phase(int source, int x, int y)
            throws IllegalStateException, IndexOutOfBoundsException {
        needTank();
        needSource(source);
        needCell(x, y);
        int length = tank.shortestLength(state, source, x, y);
        if (length == NONE) {
            return NONE;
        }
        return tank.trains[source].angleOf(state.phases[source], length, state.now);
    }

    public int arrival(int source, int x, int y)
            throws IllegalStateException, IndexOutOfBoundsException {
        needTank();
        needSource(source);
        needCell(x, y);
        return tank.firstArrival(state, source, x, y);
    }

    public int reached(int source) throws IllegalStateException, IndexOutOfBoundsException {
        needTank();
        needSource(source);
        int cells = 0;
        for (int y = 0; y < tank.rows; y++) {
            for (int x = 0; x < tank.columns; x++) {
                int first = tank.firstArrival(state, source, x, y);
                if (first != NONE && first <= state.now) {
                    cells++;
                }
            }
        }
        return cells;
    }

    // ---- waves

    public int part(int source, int x, int y)
            throws IllegalStateException, IndexOutOfBoundsException {
        needTank();
        needSource(source);
        needCell(x, y);
        return tank.partOf(state, source, x, y, state.now);
    }

    public int wave(int x, int y) throws IllegalStateException, IndexOutOfBoundsException {
        needTank();
        needCell(x, y);
        return tank.waveOf(state, x, y, state.now);
    }

    public int waveAt(int x, int y, int t)
            throws IllegalStateException, IndexOutOfBoundsException, IllegalArgumentException {
        needTank();
        needCell(x, y);
        needRange(t, 0, MAX_TIME);
        return tank.waveOf(state, x, y, t);
    }

    public int quietIn(int x, int y, int tolerance, int n)
            throws IllegalStateException, IndexOutOfBoundsException, IllegalArgumentException {
        needTank();
        needCell(x, y);
        needTolerance(tolerance);
        needRange(n, 1, MAX_QUIET_STEPS);
        for (int steps = 0; steps <= n; steps++) {
            if (Math.abs(tank.waveOf(state, x, y, state.now + steps)) <= tolerance) {
                return steps;
            }
        }
        return NONE;
    }

    // ---- gauges

    public int gauges() {
        return loaded ? tank.gaugeCount : 0;
    }

    public int gaugeAt(int gauge, int axis)
            throws IllegalStateException, IndexOutOfBoundsException, IllegalArgumentException {
        needTank();
        needGauge(gauge);
        needRange(axis, 0, 1);
        return axis == 0 ? tank.gaugeColumns[gauge] : tank.gaugeRows[gauge];
    }

    public int peak(int gauge, int n)
            throws IllegalStateException, IndexOutOfBoundsException, IllegalArgumentException {
        needTank();
        needGauge(gauge);
        needTimes(n);
        fillSeries(gauge, n);
        int greatest = 0;
        for (int i = 0; i < n; i++) {
            greatest = Math.max(greatest, Math.abs(series[i]));
        }
        return greatest;
    }

    public int crossings(int gauge, int n)
            throws IllegalStateException, IndexOutOfBoundsException, IllegalArgumentException {
        needTank();
        needGauge(gauge);
        needTimes(n);
        fillSeries(gauge, n);
        int changes = 0;
        int sign = 0;
        for (int i = 0; i < n; i++) {
            if (series[i] != 0) {
                int next = series[i] > 0 ? 1 : -1;
                if (sign != 0 && next != sign) {
                    changes++;
                }
                sign = next;
            }
        }
        return changes;
    }

    public int rhythm(int gauge, int n)
            throws IllegalStateException, IndexOutOfBoundsException, IllegalArgumentException {
        needTank();
        needGauge(gauge);
        needTimes(n);
        fillSeries(gauge, n + MAX_LAG);
        int best = 1;
        long greatest = laggedSum(n, 1);
        for (int lag = 2; lag <= MAX_LAG; lag++) {
            long sum = laggedSum(n, lag);
            if (sum > greatest) {
                greatest = sum;
                best = lag;
            }
        }
        return best;
    }

    // ---- nodes

    public boolean isNode(int x, int y, int n, int tolerance)
            throws IllegalStateException, IndexOutOfBoundsException, IllegalArgumentException {
        needTank();
        needCell(x, y);
        needTimes(n);
        needTolerance(tolerance);
        return tank.staysCalm(state, x, y, n, tolerance);
    }

    public int nodes(int n, int tolerance) throws IllegalStateException, IllegalArgumentException {
        needTank();
        needTimes(n);
        needTolerance(tolerance);
        return countCalm(state, n, tolerance);
    }

    public int nodeRows(int y, int n, int tolerance)
            throws IllegalStateException, IndexOutOfBoundsException, IllegalArgumentException {
        needTank();
        needRow(y);
        needTimes(n);
        needTolerance(tolerance);
        return calmColumns(state, y, n, tolerance);
    }

    public int nodeGroups(int n, int tolerance)
            throws IllegalStateException, IllegalArgumentException {
        needTank();
        needTimes(n);
        needTolerance(tolerance);
        for (int y = 0; y < tank.rows; y++) {
            nodeMap.rowBits[y] = calmColumns(state, y, n, tolerance);
        }
        return nodeMap.countGroups(tank.columns, tank.rows);
    }

    // ---- energy

    public long energy(int x, int y, int n)
            throws IllegalStateException, IndexOutOfBoundsException, IllegalArgumentException {
        needTank();
        needCell(x, y);
        needTimes(n);
        return tank.energyOf(state, x, y, n);
    }

    public long rowEnergy(int y, int n)
            throws IllegalStateException, IndexOutOfBoundsException, IllegalArgumentException {
        needTank();
        needRow(y);
        needTimes(n);
        long sum = 0;
        for (int x = 0; x < tank.columns; x++) {
            sum += tank.energyOf(state, x, y, n);
        }
        return sum;
    }

    public long allEnergy(int n) throws IllegalStateException, IllegalArgumentException {
        needTank();
        needTimes(n);
        fillEnergies(n);
        long sum = 0;
        for (int cell = 0; cell < tank.cells(); cell++) {
            sum += energies[cell];
        }
        return sum;
    }

    public int strongest(int rank, int n)
            throws IllegalStateException, IndexOutOfBoundsException, IllegalArgumentException {
        needTank();
        if (rank < 0 || rank >= tank.cells()) {
            throw new IndexOutOfBoundsException("no such rank");
        }
        needTimes(n);
        fillEnergies(n);
        int found = NONE;
        for (int cell = 0; cell < tank.cells() && found == NONE; cell++) {
            if (countBefore(cell) == rank) {
                found = cell;
            }
        }
        return found;
    }

    public int marks(int n, int share) throws IllegalStateException, IllegalArgumentException {
        needTank();
        needTimes(n);
        needRange(share, 1, 100);
        fillEnergies(n);
        long greatest = greatestEnergy();
        int count = 0;
        for (int cell = 0; cell < tank.cells(); cell++) {
            if (hasShare(energies[cell], share, greatest)) {
                count++;
            }
        }
        return count;
    }

    public boolean isMark(int x, int y, int n, int share)
            throws IllegalStateException, IndexOutOfBoundsException, IllegalArgumentException {
        needTank();
        needCell(x, y);
        needTimes(n);
        needRange(share, 1, 100);
        fillEnergies(n);
        return hasShare(energies[tank.cellNumber(x, y)], share, greatestEnergy());
    }

    public int fringes(int x, int n)
            throws IllegalStateException, IndexOutOfBoundsException, IllegalArgumentException {
        needTank();
        needColumn(x);
        needTimes(n);
        fillColumnEnergies(x, n);
        int count = 0;
        for (int y = 0; y < tank.rows; y++) {
            boolean aboveLess = y == 0 || energies[y - 1] < energies[y];
            boolean belowLess = y == tank.rows - 1 || energies[y + 1] < energies[y];
            if (aboveLess && belowLess) {
                count++;
            }
        }
        return count;
    }

    public float visibility(int x, int n)
            throws IllegalStateException, IndexOutOfBoundsException, IllegalArgumentException {
        needTank();
        needColumn(x);
        needTimes(n);
        fillColumnEnergies(x, n);
        long greatest = energies[0];
        long smallest = energies[0];
        for (int y = 1; y < tank.rows; y++) {
            greatest = Math.max(greatest, energies[y]);
            smallest = Math.min(smallest, energies[y]);
        }
        if (greatest == 0) {
            return 0;
        }
        return (float) (greatest - smallest) / (float) (greatest + smallest);
    }

    // ---- texts

    public int writeRow(int y) throws IllegalStateException, IndexOutOfBoundsException {
        needTank();
        needRow(y);
        page.length = 0;
        for (int x = 0; x < tank.columns; x++) {
            if (x > 0) {
                page.put(',');
            }
            page.putNumber(tank.waveOf(state, x, y, state.now));
        }
        return page.length;
    }

    public int writeMap(int n) throws IllegalStateException, IllegalArgumentException {
        needTank();
        needTimes(n);
        fillEnergies(n);
        long greatest = greatestEnergy();
        page.length = 0;
        for (int cell = 0; cell < tank.cells(); cell++) {
            if (cell > 0 && cell % tank.columns == 0) {
                page.put(';');
            }
            page.put('0' + (greatest == 0 ? 0 : (int) (9 * energies[cell] / greatest)));
        }
        return page.length;
    }

    public int textByte(int i) throws IndexOutOfBoundsException {
        if (i < 0 || i >= page.length) {
            throw new IndexOutOfBoundsException("no such byte");
        }
        return page.bytes[i];
    }

    // ---- what-if questions

    public int nodesIfOff(int source, int n, int tolerance)
            throws IllegalStateException, IndexOutOfBoundsException, IllegalArgumentException {
        needTank();
        needSource(source);
        needTimes(n);
        needTolerance(tolerance);
        trial.copyFrom(state);
        trial.on[source] = false;
        return countCalm(trial, n, tolerance);
    }

    public int bestPhase(int source, int x, int y, int n)
            throws IllegalStateException, IndexOutOfBoundsException, IllegalArgumentException {
        needTank();
        needSource(source);
        needCell(x, y);
        needTimes(n);
        trial.copyFrom(state);
        int best = NONE;
        long smallest = 0;
        for (int candidate = 0; candidate < FULL_TURN; candidate += PHASE_STEP) {
            trial.phases[source] = candidate;
            long sum = tank.energyOf(trial, x, y, n);
            if (best == NONE || sum < smallest) {
                smallest = sum;
                best = candidate;
            }
        }
        return best;
    }

    public int bestPlace(int source, int x, int y, int n)
            throws IllegalStateException, IndexOutOfBoundsException, IllegalArgumentException {
        needTank();
        needSource(source);
        needCell(x, y);
        needTimes(n);
        trial.copyFrom(state);
        int best = NONE;
        long smallest = 0;
        for (int cell = 0; cell < tank.cells(); cell++) {
            trial.columns[source] = cell % tank.columns;
            trial.rows[source] = cell / tank.columns;
            long sum = tank.energyOf(trial, x, y, n);
            if (best == NONE || sum < smallest) {
                smallest = sum;
                best = cell;
            }
        }
        return best;
    }

    public long energyIfTurned(int x, int y, int row, int n)
            throws IllegalStateException, IndexOutOfBoundsException, IllegalArgumentException {
        needTank();
        needCell(x, y);
        needRow(row);
        needTimes(n);
        return turnedEnergy(x, y, row, n);
    }

    public int bestRow(int x, int y, int n)
            throws IllegalStateException, IndexOutOfBoundsException, IllegalArgumentException {
        needTank();
        needCell(x, y);
        needTimes(n);
        int best = NONE;
        // Without a wall every row answers -1, which is never greater than this.
        long greatest = -1;
        for (int row = 0; row < tank.rows; row++) {
            long sum = turnedEnergy(x, y, row, n);
            if (sum > greatest) {
                greatest = sum;
                best = row;
            }
        }
        return best;
    }

    // ---- changes

    public int advance(int n) throws IllegalStateException, IllegalArgumentException {
        needTank();
        needRange(n, 1, MAX_STEP);
        needRange(state.now + n, 0, MAX_TIME);
        history.keep(state);
        state.now += n;
        return state.now;
    }

    public boolean setOn(int source, boolean on)
            throws IllegalStateException, IndexOutOfBoundsException {
        needTank();
        needSource(source);
        history.keep(state);
        boolean before = state.on[source];
        state.on[source] = on;
        return before;
    }

    public int setPhase(int source, int phase)
            throws IllegalStateException, IndexOutOfBoundsException, IllegalArgumentException {
        needTank();
        needSource(source);
        needRange(phase, 0, FULL_TURN - 1);
        history.keep(state);
        int before = state.phases[source];
        state.phases[source] = phase;
        return before;
    }

    public int setAmp(int source, int amp)
            throws IllegalStateException, IndexOutOfBoundsException, IllegalArgumentException {
        needTank();
        needSource(source);
        needRange(amp, 1, MAX_AMP);
        history.keep(state);
        int before = state.amps[source];
        state.amps[source] = amp;
        return before;
    }

    public int moveSource(int source, int x, int y)
            throws IllegalStateException, IndexOutOfBoundsException {
        needTank();
        needSource(source);
        needCell(x, y);
        history.keep(state);
        state.columns[source] = x;
        state.rows[source] = y;
        return tank.cellOf(state, source);
    }

    public int setDrift(int source, int vx, int vy)
            throws IllegalStateException, IndexOutOfBoundsException, IllegalArgumentException {
        needTank();
        needSource(source);
        needRange(vx, -MAX_DRIFT, MAX_DRIFT);
        needRange(vy, -MAX_DRIFT, MAX_DRIFT);
        history.keep(state);
        state.driftsX[source] = vx;
        state.driftsY[source] = vy;
        return tank.cellOf(state, source);
    }

    public boolean turnRow(int row) throws IllegalStateException, IndexOutOfBoundsException {
        needTank();
        if (tank.wallColumn == NONE) {
            throw new IllegalStateException("there is no wall");
        }
        needRow(row);
        history.keep(state);
        state.turn(row);
        return state.hasOpen(row);
    }

    public int undo() throws IllegalStateException {
        if (history.count == 0) {
            throw new IllegalStateException("nothing can be undone");
        }
        history.takeBack(state);
        return history.count;
    }

    public int undoable() {
        return history.count;
    }

    public int save(int slot) throws IllegalStateException, IndexOutOfBoundsException {
        needTank();
        needSlot(slot);
        slots[slot].copyFrom(state);
        filled[slot] = true;
        return state.now;
    }

    public int restore(int slot) throws IndexOutOfBoundsException, IllegalStateException {
        needSlot(slot);
        if (!filled[slot]) {
            throw new IllegalStateException("nothing is saved in this slot");
        }
        state.copyFrom(slots[slot]);
        history.clear();
        return state.now;
    }

    // ---- what the calls need

    private void needTank() {
        if (!loaded) {
            throw new IllegalStateException("no text was loaded");
        }
    }

    private void needSource(int source) {
        if (source < 0 || source >= tank.sourceCount) {
            throw new IndexOutOfBoundsException("no such source");
        }
    }

    private void needGauge(int gauge) {
        if (gauge < 0 || gauge >= tank.gaugeCount) {
            throw new IndexOutOfBoundsException("no such gauge");
        }
    }

    private void needColumn(int x) {
        if (x < 0 || x >= tank.columns) {
            throw new IndexOutOfBoundsException("no such column");
        }
    }

    private void needRow(int y) {
        if (y < 0 || y >= tank.rows) {
            throw new IndexOutOfBoundsException("no such row");
        }
    }

    private void needCell(int x, int y) {
        needColumn(x);
        needRow(y);
    }

    private static void needSlot(int slot) {
        if (slot < 0 || slot >= SLOTS) {
            throw new IndexOutOfBoundsException("no such slot");
        }
    }

    private static void needTimes(int n) {
        needRange(n, 1, MAX_TIMES);
    }

    private static void needTolerance(int tolerance) {
        needRange(tolerance, 0, MAX_TOLERANCE);
    }

    private static void needRange(int value, int low, int high) {
        if (value < low || value > high) {
            throw new IllegalArgumentException("a number out of range");
        }
    }

    // ---- helpers of the calls

    private void putBytes(int four) {
        for (int shift = 24; shift >= 0; shift -= 8) {
            input[inputLength] = (byte) (four >>> shift);
            inputLength++;
        }
    }

    private void fillSeries(int gauge, int n) {
        int x = tank.gaugeColumns[gauge];
        int y = tank.gaugeRows[gauge];
        for (int i = 0; i < n; i++) {
            series[i] = tank.waveOf(state, x, y, state.now + i);
        }
    }

    private long laggedSum(int n, int lag) {
        long sum = 0;
        for (int i = 0; i < n; i++) {
            sum += (long) series[i] * series[i + lag];
        }
        return sum;
    }

    private int calmColumns(State s, int y, int n, int tolerance) {
        int bits = 0;
        for (int x = 0; x < tank.columns; x++) {
            if (tank.staysCalm(s, x, y, n, tolerance)) {
                bits |= 1 << x;
            }
        }
        return bits;
    }

    private int countCalm(State s, int n, int tolerance) {
        int count = 0;
        for (int y = 0; y < tank.rows; y++) {
            for (int x = 0; x < tank.columns; x++) {
                if (tank.staysCalm(s, x, y, n, tolerance)) {
                    count++;
                }
            }
        }
        return count;
    }

    private void fillEnergies(int n) {
        for (int cell = 0; cell < tank.cells(); cell++) {
            energies[cell] = tank.energyOf(state, cell % tank.columns, cell / tank.columns, n);
        }
    }

    private void fillColumnEnergies(int x, int n) {
        for (int y = 0; y < tank.rows; y++) {
            energies[y] = tank.energyOf(state, x, y, n);
        }
    }

    private long greatestEnergy() {
        long greatest = 0;
        for (int cell = 0; cell < tank.cells(); cell++) {
            greatest = Math.max(greatest, energies[cell]);
        }
        return greatest;
    }

    private int countBefore(int cell) {
        int count = 0;
        for (int other = 0; other < tank.cells(); other++) {
            boolean tiedEarlier = energies[other] == energies[cell] && other < cell;
            if (energies[other] > energies[cell] || tiedEarlier) {
                count++;
            }
        }
        return count;
    }

    private static boolean hasShare(long own, int share, long greatest) {
        return own > 0 && 100 * own >= share * greatest;
    }

    private long turnedEnergy(int x, int y, int row, int n) {
        if (tank.wallColumn == NONE) {
            return -1;
        }
        trial.copyFrom(state);
        trial.turn(row);
        return tank.energyOf(trial, x, y, n);
    }

    /** Everything that changes alter. */
    private static final class State {
        int now;
        int open;
        final boolean[] on = new boolean[MAX_SOURCES];
        final int[] amps = new int[MAX_SOURCES];
        final int[] phases = new int[MAX_SOURCES];
        final int[] columns = new int[MAX_SOURCES];
        final int[] rows = new int[MAX_SOURCES];
        final int[] driftsX = new int[MAX_SOURCES];
        final int[] driftsY = new int[MAX_SOURCES];

        void copyFrom(State other) {
            now = other.now;
            open = other.open;
            for (int source = 0; source < MAX_SOURCES; source++) {
                on[source] = other.on[source];
                amps[source] = other.amps[source];
                phases[source] = other.phases[source];
                columns[source] = other.columns[source];
                rows[source] = other.rows[source];
                driftsX[source] = other.driftsX[source];
                driftsY[source] = other.driftsY[source];
            }
        }

        boolean hasOpen(int row) {
            return (open >> row & 1) == 1;
        }

        void turn(int row) {
            open ^= 1 << row;
        }
    }

    /** The states before the latest changes, in a ring: the ninth takes the place of the oldest. */
    private static final class History {
        private static final int MAX_KEPT = 8;

        final State[] kept = new State[MAX_KEPT];
        int oldest;
        int count;

        History() {
            for (int i = 0; i < MAX_KEPT; i++) {
                kept[i] = new State();
            }
        }

        void clear() {
            count = 0;
        }

        void keep(State state) {
            kept[(oldest + count) % MAX_KEPT].copyFrom(state);
            if (count < MAX_KEPT) {
                count++;
            } else {
                oldest = (oldest + 1) % MAX_KEPT;
            }
        }

        void takeBack(State state) {
            if (count > 0) {
                count--;
                state.copyFrom(kept[(oldest + count) % MAX_KEPT]);
            }
        }
    }

    /** The distances of cells, worked out once because waves ask for them so often. */
    private static final class Ruler {
        // An image lies up to a whole tank outside, so the differences double.
        private static final int COLUMNS = 2 * MAX_COLUMNS;
        private static final int ROWS = 2 * MAX_ROWS;

        private final int[] lengths = new int[COLUMNS * ROWS];

        Ruler() {
            for (int dx = 0; dx < COLUMNS; dx++) {
                for (int dy = 0; dy < ROWS; dy++) {
                    lengths[dx * ROWS + dy] = root(10000 * (dx * dx + dy * dy));
                }
            }
        }

        int between(int dx, int dy) {
            return lengths[Math.abs(dx) * ROWS + Math.abs(dy)];
        }

        private static int root(int square) {
            int root = 0;
            // 4095 * 4095 is above every square that the table asks for.
            for (int bit = 1 << 11; bit > 0; bit >>= 1) {
                if ((root + bit) * (root + bit) <= square) {
                    root += bit;
                }
            }
            return root;
        }
    }

    /** What of a source never changes, and how it emits. */
    private static final class Train {
        static final int SMOOTH = 0;
        static final int SQUARE = 1;
        static final int SAW = 2;

        int length = 50;
        int period = 2;
        int from;
        int until;
        int burstOn;
        int burstOff;
        int rise;
        int shape;
        int cutCount;
        final int[] cutFrom = new int[MAX_CUTS];
        final int[] cutUntil = new int[MAX_CUTS];

        void addCut(int first, int last) {
            if (cutCount < MAX_CUTS) {
                cutFrom[cutCount] = first;
                cutUntil[cutCount] = last;
                cutCount++;
            }
        }

        int emitted(int amp, int e) {
            if (e < from || e > until) {
                return 0;
            }
            for (int cut = 0; cut < cutCount; cut++) {
                if (e >= cutFrom[cut] && e <= cutUntil[cut]) {
                    return 0;
                }
            }
            if (burstOn > 0) {
                return (e - from) % (burstOn + burstOff) < burstOn ? amp : 0;
            }
            if (rise > 0) {
                return amp * Math.min(e - from + 1, rise) / rise;
            }
            return amp;
        }

        int delayOf(int way) {
            return way * period / length;
        }

        int angleOf(int phase, int way, int t) {
            int turned = phase + FULL_TURN * t / period - FULL_TURN * way / length;
            return Math.floorMod(turned, FULL_TURN);
        }

        int valueOf(int angle) {
            if (shape == SQUARE) {
                return angle < 180 ? 1000 : -1000;
            }
            if (shape == SAW) {
                return angle * 1000 / 180 - 1000;
            }
            return sineOf(angle);
        }

        int brings(int amp, int phase, int way, int t, int fade) {
            int a = emitted(amp, t - delayOf(way));
            if (a == 0) {
                return 0;
            }
            if (fade > 0) {
                a = a * fade / (fade + way);
            }
            return a * valueOf(angleOf(phase, way, t)) / 1000;
        }

        static int sineOf(int angle) {
            int a = angle < 180 ? angle : angle - 180;
            int product = a * (180 - a);
            int size = 4000 * product / (40500 - product);
            return angle < 180 ? size : -size;
        }
    }

    private static final class Shoal {
        int firstX;
        int firstY;
        int lastX;
        int lastY;
        int percent;

        boolean holds(int x, int y) {
            return x >= firstX && x <= lastX && y >= firstY && y <= lastY;
        }
    }

    /** What of a loaded text never changes, and the waves that a state makes in it. */
    private static final class Tank {
        static final int SIDES = 4;
        static final int LEFT = 0;
        static final int RIGHT = 1;
        static final int TOP = 2;
        static final int BOTTOM = 3;

        final Ruler ruler;
        int columns = 1;
        int rows = 1;
        int fade;
        int wallColumn = NONE;
        int sourceCount;
        final Train[] trains = new Train[MAX_SOURCES];
        int shoalCount;
        final Shoal[] shoals = new Shoal[MAX_SHOALS];
        int gaugeCount;
        final int[] gaugeColumns = new int[MAX_GAUGES];
        final int[] gaugeRows = new int[MAX_GAUGES];
        final int[] mirrors = new int[SIDES];

        Tank(Ruler ruler) {
            this.ruler = ruler;
            for (int source = 0; source < MAX_SOURCES; source++) {
                trains[source] = new Train();
            }
            for (int shoal = 0; shoal < MAX_SHOALS; shoal++) {
                shoals[shoal] = new Shoal();
            }
        }

        /** Forgets what a text need not tell; the rest is told anew by every text. */
        void clear() {
            wallColumn = NONE;
            sourceCount = 0;
            shoalCount = 0;
            gaugeCount = 0;
            for (int side = 0; side < SIDES; side++) {
                mirrors[side] = 0;
            }
        }

        int cells() {
            return columns * rows;
        }

        int cellNumber(int x, int y) {
            return y * columns + x;
        }

        int columnOf(State s, int source, int t) {
            int column = s.columns[source] + s.driftsX[source] * t / 100;
            return Math.max(0, Math.min(columns - 1, column));
        }

        int rowOf(State s, int source, int t) {
            int row = s.rows[source] + s.driftsY[source] * t / 100;
            return Math.max(0, Math.min(rows - 1, row));
        }

        int cellOf(State s, int source) {
            return cellNumber(columnOf(s, source, s.now), rowOf(s, source, s.now));
        }

        boolean isShadowed(int fromX, int x) {
            if (wallColumn == NONE) {
                return false;
            }
            return fromX < wallColumn && x > wallColumn || fromX > wallColumn && x < wallColumn;
        }

        boolean isBlocked(State s, int x, int y) {
            return wallColumn != NONE && x == wallColumn && !s.hasOpen(y);
        }

        int lengthThrough(int row, int fromX, int fromY, int x, int y) {
            return ruler.between(fromX - wallColumn, fromY - row)
                    + ruler.between(wallColumn - x, row - y);
        }

        int shortestLength(State s, int source, int x, int y) {
            if (isBlocked(s, x, y)) {
                return NONE;
            }
            int fromX = columnOf(s, source, s.now);
            int fromY = rowOf(s, source, s.now);
            if (!isShadowed(fromX, x)) {
                return ruler.between(fromX - x, fromY - y);
            }
            int best = NONE;
            for (int row = 0; row < rows; row++) {
                if (s.hasOpen(row)) {
                    int way = lengthThrough(row, fromX, fromY, x, y);
                    best = best == NONE ? way : Math.min(best, way);
                }
            }
            return best;
        }

        int firstArrival(State s, int source, int x, int y) {
            int way = shortestLength(s, source, x, y);
            if (way == NONE) {
                return NONE;
            }
            return trains[source].from + trains[source].delayOf(way);
        }

        int imageColumn(int side, int x) {
            if (side == LEFT) {
                return -1 - x;
            }
            return side == RIGHT ? 2 * columns - 1 - x : x;
        }

        int imageRow(int side, int y) {
            if (side == TOP) {
                return -1 - y;
            }
            return side == BOTTOM ? 2 * rows - 1 - y : y;
        }

        int partOf(State s, int source, int x, int y, int t) {
            if (!s.on[source] || isBlocked(s, x, y)) {
                return 0;
            }
            Train train = trains[source];
            int amp = s.amps[source];
            int phase = s.phases[source];
            int fromX = columnOf(s, source, t);
            int fromY = rowOf(s, source, t);
            int sum = 0;
            if (isShadowed(fromX, x)) {
                for (int row = 0; row < rows; row++) {
                    if (s.hasOpen(row)) {
                        int way = lengthThrough(row, fromX, fromY, x, y);
                        sum += train.brings(amp, phase, way, t, fade);
                    }
                }
                return s.open == 0 ? 0 : sum / Integer.bitCount(s.open);
            }
            sum = train.brings(amp, phase, ruler.between(fromX - x, fromY - y), t, fade);
            for (int side = 0; side < SIDES; side++) {
                if (mirrors[side] > 0) {
                    int dx = imageColumn(side, fromX) - x;
                    int dy = imageRow(side, fromY) - y;
                    int way = ruler.between(dx, dy);
                    sum += train.brings(amp, phase, way, t, fade) * mirrors[side] / 100;
                }
            }
            return sum;
        }

        int waveOf(State s, int x, int y, int t) {
            int sum = 0;
            for (int source = 0; source < sourceCount; source++) {
                sum += partOf(s, source, x, y, t);
            }
            for (int shoal = 0; shoal < shoalCount; shoal++) {
                if (shoals[shoal].holds(x, y)) {
                    sum = sum * shoals[shoal].percent / 100;
                }
            }
            return sum;
        }

        boolean staysCalm(State s, int x, int y, int n, int tolerance) {
            for (int i = 0; i < n; i++) {
                if (Math.abs(waveOf(s, x, y, s.now + i)) > tolerance) {
                    return false;
                }
            }
            return true;
        }

        long energyOf(State s, int x, int y, int n) {
            long sum = 0;
            for (int i = 0; i < n; i++) {
                long wave = waveOf(s, x, y, s.now + i);
                sum += wave * wave;
            }
            return sum;
        }
    }

    /** The nodes of a tank as bit sets of its rows, and their groups. */
    private static final class NodeMap {
        final int[] rowBits = new int[MAX_ROWS];
        private final int[] gathered = new int[MAX_CELLS];
        private int gatheredCount;

        /** Counts the groups; the bits are used up by it. */
        int countGroups(int columns, int rows) {
            int groups = 0;
            for (int y = 0; y < rows; y++) {
                for (int x = 0; x < columns; x++) {
                    if ((rowBits[y] >> x & 1) == 1) {
                        groups++;
                        removeGroup(x, y, columns, rows);
                    }
                }
            }
            return groups;
        }

        private void removeGroup(int x, int y, int columns, int rows) {
            gatheredCount = 0;
            gather(x, y, columns, rows);
            for (int i = 0; i < gatheredCount && i < MAX_CELLS; i++) {
                int column = gathered[i] % columns;
                int row = gathered[i] / columns;
                gather(column - 1, row, columns, rows);
                gather(column + 1, row, columns, rows);
                gather(column, row - 1, columns, rows);
                gather(column, row + 1, columns, rows);
            }
        }

        /** Moves a node from the bits to the gathered cells, so that it is met only once. */
        private void gather(int x, int y, int columns, int rows) {
            if (x < 0 || x >= columns || y < 0 || y >= rows || (rowBits[y] >> x & 1) == 0) {
                return;
            }
            rowBits[y] ^= 1 << x;
            if (gatheredCount < MAX_CELLS) {
                gathered[gatheredCount] = y * columns + x;
                gatheredCount++;
            }
        }
    }

    /** The text that was written last. */
    private static final class Page {
        private static final int MAX_DIGITS = 10;

        // The longest texts are 160 digits with 9 semicolons, and 16 numbers with 15 commas.
        final byte[] bytes = new byte[256];
        int length;

        void put(int sign) {
            if (length < bytes.length) {
                bytes[length] = (byte) sign;
                length++;
            }
        }

        void putNumber(int number) {
            if (number < 0) {
                put('-');
            }
            int size = Math.abs(number);
            int unit = 1;
            for (int digits = 1; digits < MAX_DIGITS && unit <= size / 10; digits++) {
                unit *= 10;
            }
            for (; unit > 0; unit /= 10) {
                put('0' + size / unit % 10);
            }
        }
    }

    /** Reads a text, token by token, into a tank and its first state; stops at the first error. */
    private static final class Parser {
        private static final int END = 0;
        private static final int WORD = 1;
        private static final int NUMBER = 2;
        private static final int MINUS = 3;
        private static final int SEMICOLON = 4;
        private static final int BROKEN = 5;

        private static final int WRONG_TOKEN = 1;
        private static final int OUT_OF_BOUNDS = 2;
        private static final int TOLD_TWICE = 3;
        private static final int TOO_MANY = 4;
        private static final int NO_TRAIN = 5;

        private static final int MAX_LETTERS = 8;
        private static final int MAX_DIGITS = 4;

        int errorCode;
        int errorPlace = NONE;
        private final byte[] bytes;
        private final int end;
        private final Tank tank;
        private final State state;
        private int kind;
        private int start;
        private int stop;
        private int value;
        private int cutCount;
        private int toldDrifts;
        private int toldOffs;
        private int toldShapes;

        Parser(byte[] bytes, int end, Tank tank, State state) {
            this.bytes = bytes;
            this.end = end;
            this.tank = tank;
            this.state = state;
        }

        // ---- lines

        void readText() {
            tank.clear();
            state.now = 0;
            state.open = 0;
            nextToken();
            readHead();
            for (int lines = 0; lines < MAX_BYTES && takeSemicolon(); lines++) {
                readLine();
            }
            if (errorCode == 0 && kind != END) {
                fail(WRONG_TOKEN);
            }
            if (errorCode == 0 && tank.sourceCount == 0) {
                fail(NO_TRAIN);
            }
        }

        private void readHead() {
            readWord("tank");
            readWord("width");
            int columns = readNumber(1, MAX_COLUMNS);
            readWord("height");
            int rows = readNumber(1, MAX_ROWS);
            readWord("fade");
            int fade = readNumber(0, 9999);
            if (errorCode == 0) {
                tank.columns = columns;
                tank.rows = rows;
                tank.fade = fade;
                if (takeWord("wall")) {
                    tank.wallColumn = readNumber(0, columns - 1);
                }
            }
        }

        private void readLine() {
            if (isWord("train")) {
                readTrain();
            } else if (isWord("drift")) {
                readDrift();
            } else if (isWord("slit")) {
                readSlit();
            } else if (isWord("off")) {
                readOff();
            } else if (isWord("mirror")) {
                readMirror();
            } else if (isWord("cut")) {
                readCut();
            } else if (isWord("shape")) {
                readShape();
            } else if (isWord("shoal")) {
                readShoal();
            } else if (isWord("gauge")) {
                readGauge();
            } else {
                fail(WRONG_TOKEN);
            }
        }

        private void readTrain() {
            if (!startCounted(tank.sourceCount, MAX_SOURCES)) {
                return;
            }
            int source = tank.sourceCount;
            Train train = tank.trains[source];
            state.columns[source] = readColumn(0);
            state.rows[source] = readRow(0);
            state.amps[source] = readNumber(1, MAX_AMP);
            int length = readNumber(50, 9999);
            int period = readNumber(2, 99);
            state.phases[source] = readNumber(0, FULL_TURN - 1);
            train.from = readNumber(0, 9999);
            train.until = readNumber(train.from, 9999);
            train.burstOn = 0;
            train.burstOff = 0;
            train.rise = 0;
            if (takeWord("burst")) {
                train.burstOn = readNumber(1, 99);
                train.burstOff = readNumber(1, 99);
            } else if (takeWord("rising")) {
                train.rise = readNumber(1, 99);
            }
            if (errorCode != 0) {
                return;
            }
            train.length = length;
            train.period = period;
            train.shape = Train.SMOOTH;
            train.cutCount = 0;
            state.driftsX[source] = 0;
            state.driftsY[source] = 0;
            state.on[source] = true;
            tank.sourceCount++;
        }

        private void readDrift() {
            nextToken();
            int source = readSource(toldDrifts);
            int vx = readSigned();
            int vy = readSigned();
            if (errorCode == 0) {
                toldDrifts |= 1 << source;
                state.driftsX[source] = vx;
                state.driftsY[source] = vy;
            }
        }

        private void readSlit() {
            nextToken();
            int highest = tank.wallColumn == NONE ? NONE : tank.rows - 1;
            int first = readNumber(0, highest);
            int last = readNumber(first, highest);
            if (errorCode == 0) {
                for (int row = first; row <= last; row++) {
                    state.open |= 1 << row;
                }
            }
        }

        private void readOff() {
            nextToken();
            int source = readSource(toldOffs);
            if (errorCode == 0) {
                toldOffs |= 1 << source;
                state.on[source] = false;
            }
        }

        private void readMirror() {
            nextToken();
            int side = readSide();
            int percent = readNumber(1, 100);
            if (errorCode == 0) {
                tank.mirrors[side] = percent;
            }
        }

        private void readCut() {
            if (!startCounted(cutCount, MAX_CUTS)) {
                return;
            }
            int source = readSource(0);
            int first = readNumber(0, 9999);
            int last = readNumber(first, 9999);
            if (errorCode == 0) {
                tank.trains[source].addCut(first, last);
                cutCount++;
            }
        }

        private void readShape() {
            nextToken();
            int source = readSource(toldShapes);
            int shape = Train.SMOOTH;
            if (takeWord("square")) {
                shape = Train.SQUARE;
            } else if (takeWord("saw")) {
                shape = Train.SAW;
            } else {
                fail(WRONG_TOKEN);
            }
            if (errorCode == 0) {
                toldShapes |= 1 << source;
                tank.trains[source].shape = shape;
            }
        }

        private void readShoal() {
            if (!startCounted(tank.shoalCount, MAX_SHOALS)) {
                return;
            }
            Shoal shoal = tank.shoals[tank.shoalCount];
            shoal.firstX = readColumn(0);
            shoal.firstY = readRow(0);
            shoal.lastX = readColumn(shoal.firstX);
            shoal.lastY = readRow(shoal.firstY);
            shoal.percent = readNumber(0, 200);
            if (errorCode == 0) {
                tank.shoalCount++;
            }
        }

        private void readGauge() {
            if (!startCounted(tank.gaugeCount, MAX_GAUGES)) {
                return;
            }
            tank.gaugeColumns[tank.gaugeCount] = readColumn(0);
            tank.gaugeRows[tank.gaugeCount] = readRow(0);
            if (errorCode == 0) {
                tank.gaugeCount++;
            }
        }

        // ---- parts of lines; after an error they read nothing more

        /** Passes the first word of a line of which there is only a limited number. */
        private boolean startCounted(int count, int limit) {
            if (count >= limit) {
                fail(TOO_MANY);
                return false;
            }
            nextToken();
            return true;
        }

        private int readColumn(int low) {
            return readNumber(low, tank.columns - 1);
        }

        private int readRow(int low) {
            return readNumber(low, tank.rows - 1);
        }

        private int readSource(int told) {
            if (kind == NUMBER && value < tank.sourceCount && (told >> value & 1) == 1) {
                fail(TOLD_TWICE);
            }
            return readNumber(0, tank.sourceCount - 1);
        }

        private int readSide() {
            int side = NONE;
            if (isWord("left")) {
                side = Tank.LEFT;
            } else if (isWord("right")) {
                side = Tank.RIGHT;
            } else if (isWord("top")) {
                side = Tank.TOP;
            } else if (isWord("bottom")) {
                side = Tank.BOTTOM;
            }
            if (side == NONE) {
                fail(WRONG_TOKEN);
            } else if (tank.mirrors[side] > 0) {
                fail(TOLD_TWICE);
            } else {
                nextToken();
            }
            return side;
        }

        private int readSigned() {
            boolean negative = errorCode == 0 && kind == MINUS;
            if (negative) {
                nextToken();
            }
            int size = readNumber(0, MAX_DRIFT);
            return negative ? -size : size;
        }

        private int readNumber(int low, int high) {
            if (errorCode != 0) {
                return NONE;
            }
            if (kind != NUMBER) {
                fail(WRONG_TOKEN);
                return NONE;
            }
            if (value < low || value > high) {
                fail(OUT_OF_BOUNDS);
                return NONE;
            }
            int number = value;
            nextToken();
            return number;
        }

        private void readWord(String word) {
            if (!takeWord(word)) {
                fail(WRONG_TOKEN);
            }
        }

        private boolean takeWord(String word) {
            if (errorCode != 0 || !isWord(word)) {
                return false;
            }
            nextToken();
            return true;
        }

        private boolean takeSemicolon() {
            if (errorCode != 0 || kind != SEMICOLON) {
                return false;
            }
            nextToken();
            return true;
        }

        private boolean isWord(String word) {
            if (kind != WORD || stop - start != word.length()) {
                return false;
            }
            for (int i = 0; i < word.length(); i++) {
                if (bytes[start + i] != word.charAt(i)) {
                    return false;
                }
            }
            return true;
        }

        /** Only the first error counts. */
        private void fail(int code) {
            if (errorCode == 0) {
                errorCode = code;
                errorPlace = start;
            }
        }

        // ---- tokens

        private void nextToken() {
            start = stop;
            while (start < end && bytes[start] == ' ') {
                start++;
            }
            int letters = countRun('a', 'z');
            int digits = countRun('0', '9');
            if (start >= end) {
                kind = END;
                stop = end;
            } else if (letters > 0) {
                kind = letters > MAX_LETTERS ? BROKEN : WORD;
                stop = start + letters;
            } else if (digits > 0) {
                kind = digits > MAX_DIGITS ? BROKEN : NUMBER;
                stop = start + digits;
                value = digits > MAX_DIGITS ? NONE : numberAtStart();
            } else {
                kind = kindOfSign(bytes[start]);
                stop = start + 1;
            }
        }

        private int countRun(char low, char high) {
            int place = start;
            while (place < end && bytes[place] >= low && bytes[place] <= high) {
                place++;
            }
            return place - start;
        }

        private int numberAtStart() {
            int number = 0;
            for (int place = start; place < stop; place++) {
                number = 10 * number + bytes[place] - '0';
            }
            return number;
        }

        private static int kindOfSign(byte sign) {
            if (sign == '-') {
                return MINUS;
            }
            return sign == ';' ? SEMICOLON : BROKEN;
        }
    }
}
