import java.lang.reflect.InvocationTargetException;
import java.lang.reflect.Method;
import java.util.ArrayList;
import java.util.Arrays;
import java.util.Collections;
import java.util.List;
import java.util.Map;

/**
 * The ranges of all arguments in all methods: both ends are taken, what lies beside them is refused
 * with the exception that is listed first, and neither a refused call nor a question changes anything.
 */
public final class RangeTest {
    private static final String SMALLEST = "tank width 1 height 1 fade 0;train 0 0 50 70 5 90 0 9999";
    private static final String MIDDLE = "tank width 5 height 3 fade 90 wall 2;slit 0 1"
            + ";train 0 1 100 100 4 90 0 9999;train 4 2 70 150 9 10 2 300;train 2 0 9 60 3 0 0 99"
            + ";drift 1 - 3 2;mirror top 40;shoal 0 0 1 1 80;gauge 3 2;gauge 0 1";
    private static final String GREATEST = "tank width 16 height 10 fade 9999 wall 15;slit 9 9"
            + ";train 15 9 999 9999 99 359 0 9999;train 0 0 1 50 2 0 0 0;train 0 9 5 60 7 8 9 9"
            + ";train 15 0 5 60 7 8 9 9;gauge 15 9;gauge 0 0;gauge 0 9;gauge 15 0";

    /** The promise, the method, and for each argument the kind of its range. */
    private static final String[] FACE = {
        "12 isOpen row", "14 sourceAt source axis t", "15 property source what", "16 isOn source",
        "17 amplitude source t", "18 sine angle", "19 distance dx dy", "20 isBehind source x y",
        "21 path source x y row", "22 shortest source x y", "23 phase source x y",
        "24 arrival source x y", "25 reached source", "26 part source x y", "27 wave x y",
        "28 waveAt x y t", "29 quietIn x y tolerance steps", "31 gaugeAt gauge axis",
        "32 peak gauge n", "33 crossings gauge n", "34 rhythm gauge n",
        "35 isNode x y n tolerance", "36 nodes n tolerance", "37 nodeRows y n tolerance",
        "38 nodeGroups n tolerance", "39 energy x y n", "40 rowEnergy y n", "41 allEnergy n",
        "42 strongest rank n", "43 marks n share", "44 isMark x y n share", "45 fringes x n",
        "46 visibility x n", "47 writeRow y", "48 writeMap n", "50 nodesIfOff source n tolerance",
        "51 bestPhase source x y n", "52 bestPlace source x y n", "53 energyIfTurned x y row n",
        "54 bestRow x y n", "55 advance step", "56 setOn source on", "57 setPhase source phase",
        "58 setAmp source amp", "59 moveSource source x y", "60 setDrift source v v",
        "61 turnRow row", "64 save slot", "65 restore slot"};

    /** What the document says of an argument of a kind. */
    private static final Map<String, String> WORDS = Map.ofEntries(
            Map.entry("source", "number of the source"), Map.entry("gauge", "number of the gauge"),
            Map.entry("x", "column, 0 to WIDTH - 1"), Map.entry("y", "row, 0 to HEIGHT - 1"),
            Map.entry("row", "0 to HEIGHT - 1"), Map.entry("rank", "from 0"),
            Map.entry("slot", "0 or 1"), Map.entry("axis", "0: the column; 1: the row"),
            Map.entry("t", "0 to 9999"), Map.entry("n", "1 to 40, the number of times"),
            Map.entry("what", "0: AMP; 1: LENGTH; 2: PERIOD; 3: PHASE; 4: FROM; 5: UNTIL"),
            Map.entry("angle", "0 to 359"), Map.entry("phase", "0 to 359"),
            Map.entry("dx", "the difference of the columns, 0 to 15"),
            Map.entry("dy", "the difference of the rows, 0 to 9"),
            Map.entry("tolerance", "0 to 9999"), Map.entry("amp", "1 to 999"),
            Map.entry("steps", "1 to 200, the greatest number of steps to look at"),
            Map.entry("share", "1 to 100"), Map.entry("step", "1 to 999"),
            Map.entry("v", "-99 to 99"), Map.entry("on", "true if it is on from now on"));

    private final Bench b = new Bench();
    private final String text;
    private final RippleTank plain;

    private RangeTest(String text) {
        this.text = text;
        plain = Bench.loaded(text);
    }

    public static void main(String[] args) throws Exception {
        for (String text : new String[] {SMALLEST, MIDDLE, GREATEST}) {
            RangeTest test = new RangeTest(text);
            for (String line : FACE) {
                String[] words = line.split(" ");
                test.method(Integer.parseInt(words[0]), words[1],
                        Arrays.copyOfRange(words, 2, words.length));
            }
            test.withoutArguments();
            test.b.end();
        }
    }

    private void method(int promise, String name, String[] kinds) throws Exception {
        Method method = methodOf(name, kinds.length);
        for (String kind : kinds) {
            b.sentence("promise " + promise, "`: " + WORDS.get(kind));
            b.same("only gauges may be missing", high(kind) >= low(kind) || kind.equals("gauge"),
                    true);
        }
        b.same("the exceptions of " + name, listed(name, kinds), Document.thrown(promise));
        boolean takes = Arrays.stream(kinds).allMatch(kind -> high(kind) >= low(kind))
                && !(name.equals("turnRow") && plain.wall() == RippleTank.NONE);
        if (takes) {
            b.sentence("section 7", "A call of a method that throws an exception changes nothing,");
        }
        for (int i = 0; i < kinds.length; i++) {
            if (takes) {
                ends(method, kinds, i);
                beside(method, kinds, i);
            }
        }
        withoutTank(promise, method, kinds);
    }

    /** The exceptions that are tested, in the order that the document has to list them in. */
    private static List<String> listed(String name, String[] kinds) {
        List<String> names = new ArrayList<>();
        if (!name.equals("sine") && !name.equals("distance")) {
            names.add(Bench.STATE);
        }
        for (String exception : new String[] {Bench.INDEX, Bench.ARGUMENT}) {
            for (String kind : kinds) {
                if (!kind.equals("on") && exceptionOf(kind).equals(exception)
                        && !names.contains(exception)) {
                    names.add(exception);
                }
            }
        }
        if (name.equals("restore")) {
            Collections.reverse(names);
        }
        return names;
    }

    private static Method methodOf(String name, int count) {
        for (Method method : RippleTank.class.getDeclaredMethods()) {
            if (method.getName().equals(name) && method.getParameterCount() == count) {
                return method;
            }
        }
        throw new IllegalStateException("no method " + name);
    }

    // ---- ranges

    private int low(String kind) {
        switch (kind) {
            case "n": case "steps": case "share": case "step": case "amp": return 1;
            case "v": return -99;
            default: return 0;
        }
    }

    private int high(String kind) {
        switch (kind) {
            case "source": return plain.sources() - 1;
            case "gauge": return plain.gauges() - 1;
            case "x": return plain.width() - 1;
            case "y": case "row": return plain.height() - 1;
            case "rank": return plain.width() * plain.height() - 1;
            case "slot": case "axis": case "on": return 1;
            case "what": return 5;
            case "t": case "tolerance": return 9999;
            case "angle": case "phase": return 359;
            case "dx": return 15;
            case "dy": return 9;
            case "n": return 40;
            case "steps": return 200;
            case "share": return 100;
            case "v": return 99;
            default: return 999;
        }
    }

    private static String exceptionOf(String kind) {
        switch (kind) {
            case "source": case "gauge": case "x": case "y": case "row": case "rank": case "slot":
                return Bench.INDEX;
            default:
                return Bench.ARGUMENT;
        }
    }

    private int[] wrongOnes(String kind) {
        return new int[] {low(kind) - 1, high(kind) + 1, Integer.MIN_VALUE, Integer.MAX_VALUE,
            low(kind) - 32, high(kind) + 32, high(kind) + 65536};
    }

    private int[] middles(String[] kinds) {
        int[] values = new int[kinds.length];
        for (int i = 0; i < kinds.length; i++) {
            values[i] = (low(kinds[i]) + high(kinds[i])) / 2;
        }
        return values;
    }

    // ---- calls

    private void ends(Method method, String[] kinds, int i) throws Exception {
        for (int end : new int[] {low(kinds[i]), high(kinds[i])}) {
            int[] values = middles(kinds);
            values[i] = end;
            RippleTank t = lived();
            String before = View.of(t).replaceAll(" written [-0-9,;]*", "");
            Object answer = outcome(method, t, values);
            b.same(said(method, values) + " takes it", answer instanceof String, false);
            if (!isChange(method.getName())) {
                b.same(said(method, values) + " changes nothing",
                        View.of(t).replaceAll(" written [-0-9,;]*", ""), before);
            }
        }
    }

    private void beside(Method method, String[] kinds, int i) throws Exception {
        if (kinds[i].equals("on")) {
            return;
        }
        String untouched = View.ofWholeLife(lived());
        for (int wrong : wrongOnes(kinds[i])) {
            int[] values = middles(kinds);
            values[i] = wrong;
            RippleTank t = lived();
            b.same(said(method, values), outcome(method, t, values), exceptionOf(kinds[i]));
            b.same(said(method, values) + " changes nothing", View.ofWholeLife(t), untouched);
        }
        for (int j = 0; j < kinds.length; j++) {
            if (j != i && !kinds[j].equals("on")) {
                int[] values = middles(kinds);
                values[i] = low(kinds[i]) - 1;
                values[j] = high(kinds[j]) + 1;
                boolean index = exceptionOf(kinds[i]).equals(Bench.INDEX)
                        || exceptionOf(kinds[j]).equals(Bench.INDEX);
                b.same(said(method, values) + ", the first listed", outcome(method, lived(), values),
                        index ? Bench.INDEX : Bench.ARGUMENT);
            }
        }
    }

    /** A tank with changes to undo, two saved states, a parse error, and bytes in both texts. */
    private RippleTank lived() {
        RippleTank t = Bench.loaded(text);
        t.advance(3);
        t.setAmp(0, 77);
        t.save(0);
        t.setPhase(0, 33);
        t.moveSource(0, 0, 0);
        t.save(1);
        t.setDrift(0, 50, -50);
        t.setOn(0, true);
        t.writeRow(0);
        Bench.append(t, "tank width 99");
        b.refused("a failed load", Bench.ARGUMENT, () -> t.load(13));
        t.append(0, 1, 2, 3, 4);
        return t;
    }

    private void withoutTank(int promise, Method method, String[] kinds) throws Exception {
        if (method.getName().equals("sine") || method.getName().equals("distance")) {
            b.same(method.getName() + " without a tank",
                    outcome(method, new RippleTank(), middles(kinds)) instanceof String, false);
            return;
        }
        boolean indexFirst = method.getName().equals("restore");
        b.sentence("promise " + promise, indexFirst
                ? "Throws `IllegalStateException` if nothing is saved there"
                : method.getName().equals("turnRow")
                ? "Throws `IllegalStateException` if there is no tank or no wall"
                : "Throws `IllegalStateException` if there is no tank (no text was loaded)");
        String untouched = View.ofWholeLife(new RippleTank());
        RippleTank t = new RippleTank();
        b.same("good arguments", outcome(method, t, middles(kinds)), Bench.STATE);
        int[] wrong = new int[kinds.length];
        Arrays.fill(wrong, 1_000_000);
        b.same("wrong arguments", outcome(method, t, wrong), indexFirst ? Bench.INDEX : Bench.STATE);
        b.same("changes nothing", View.ofWholeLife(t), untouched);
    }

    /** Methods without arguments take what they take with a tank, and refuse without one. */
    private void withoutArguments() throws Exception {
        int found = 0;
        for (Method method : RippleTank.class.getDeclaredMethods()) {
            boolean called = method.getParameterCount() == 0
                    && java.lang.reflect.Modifier.isPublic(method.getModifiers());
            if (called && !method.getName().equals("undo")) {
                found++;
                RippleTank t = lived();
                String before = View.ofWholeLife(lived());
                b.same(method.getName() + " with a tank",
                        outcome(method, t, new int[0]) instanceof String, false);
                b.same(method.getName() + " changes nothing", View.ofWholeLife(t), before);
                boolean refuses = method.getName().equals("wall")
                        || method.getName().equals("openRows");
                b.same(method.getName() + " without a tank",
                        Bench.STATE.equals(outcome(method, new RippleTank(), new int[0])), refuses);
            }
        }
        // All promises but 1 to 3, textByte and undo, which have tests of their own.
        b.same("all methods are looked at", FACE.length + found + 5, Document.promises());
    }

    private static boolean isChange(String name) {
        return name.startsWith("set") || name.equals("advance") || name.equals("moveSource")
                || name.equals("turnRow") || name.equals("save") || name.equals("restore");
    }

    private static String said(Method method, int[] values) {
        return method.getName() + Arrays.toString(values);
    }

    private static Object outcome(Method method, RippleTank t, int[] values) throws Exception {
        Object[] arguments = new Object[values.length];
        for (int i = 0; i < values.length; i++) {
            boolean flag = method.getParameterTypes()[i] == boolean.class;
            arguments[i] = flag ? (Object) (values[i] == 1) : (Object) values[i];
        }
        try {
            return method.invoke(t, arguments);
        } catch (InvocationTargetException e) {
            return e.getCause().getClass().getSimpleName();
        }
    }
}
