import java.lang.reflect.InvocationTargetException;
import java.lang.reflect.Method;
import java.util.ArrayList;
import java.util.Comparator;
import java.util.List;
import java.util.Set;

/** Long runs of calls, the same in every session, on RippleTank and on Model: all answers agree. */
public final class ModelTest {
    private static final int RUNS = 600;
    private static final int CALLS = 120;
    // Every third run is made mostly of these, so that more changes are made than can be undone.
    private static final int MOSTLY_CHANGES = 3;
    private static final Set<String> CHANGES = Set.of("advance", "setOn", "setPhase", "setAmp",
            "moveSource", "setDrift", "turnRow", "undo", "undoable", "save", "restore");

    private long seed;
    private int wrong;
    private int answers;
    private int refusals;
    private int loads;
    private final List<Method> face = new ArrayList<>();
    private final List<Method> changes = new ArrayList<>();

    public static void main(String[] args) throws Exception {
        ModelTest test = new ModelTest();
        for (Method method : RippleTank.class.getDeclaredMethods()) {
            if (java.lang.reflect.Modifier.isPublic(method.getModifiers())) {
                test.face.add(method);
            }
        }
        test.face.sort(Comparator.comparing(Method::getName));
        for (Method method : test.face) {
            // restore would empty the history too soon if it were as frequent as the changes.
            int times = !CHANGES.contains(method.getName()) ? 0
                    : method.getName().equals("restore") ? 1 : 4;
            for (int i = 0; i < times; i++) {
                test.changes.add(method);
            }
        }
        for (int run = 0; run < RUNS && test.wrong < 20; run++) {
            test.run(run);
        }
        System.out.println(test.answers + " answers, " + test.refusals + " refusals and "
                + test.loads + " loads agree, " + test.wrong + " do not");
        if (test.wrong != 0 || test.face.size() != 64 || test.changes.size() != 41) {
            System.exit(1);
        }
    }

    private int pick(int bound) {
        seed = seed * 6364136223846793005L + 1442695040888963407L;
        return (int) Long.remainderUnsigned(seed >>> 33, bound);
    }

    private void run(int run) throws Exception {
        seed = run * 7919L + 17;
        pick(2);
        RippleTank tank = new RippleTank();
        Model model = new Model();
        if (pick(20) > 0) {
            load(run, tank, model);
        }
        boolean changing = run % MOSTLY_CHANGES == 0;
        for (int call = 0; call < CALLS && wrong < 20; call++) {
            if (pick(changing ? 100 : 25) == 0) {
                load(run, tank, model);
            } else {
                List<Method> choice = changing && pick(3) > 0 ? changes : face;
                Method method = choice.get(pick(choice.size()));
                if (!method.getName().equals("load") || pick(4) == 0) {
                    compare(run, tank, model, method, arguments(method, tank));
                }
            }
        }
    }

    private void load(int run, RippleTank tank, Model model) throws Exception {
        String text = text();
        if (pick(3) == 0) {
            text = spoilt(text);
        }
        int whole = (text.length() + 19) / 20 * 20;
        StringBuilder padded = new StringBuilder(text);
        while (padded.length() < whole) {
            padded.append(pick(5) == 0 ? (char) pick(256) : ' ');
        }
        byte[] bytes = padded.toString().getBytes(java.nio.charset.StandardCharsets.ISO_8859_1);
        Method append = RippleTank.class.getMethod("append", int.class, int.class, int.class,
                int.class, int.class);
        for (int at = 0; at < whole; at += 20) {
            Object[] fives = new Object[5];
            for (int i = 0; i < 5; i++) {
                fives[i] = Bench.four(bytes, at + 4 * i);
            }
            compare(run, tank, model, append, fives);
        }
        int n = pick(12) == 0 ? whole + pick(3) - 1 : pick(12) == 0 ? pick(whole + 1)
                : text.length();
        compare(run, tank, model, RippleTank.class.getMethod("load", int.class),
                new Object[] {n});
        compare(run, tank, model, RippleTank.class.getMethod("parseError"), new Object[0]);
        compare(run, tank, model, RippleTank.class.getMethod("errorPosition"), new Object[0]);
        loads++;
    }

    private void compare(int run, RippleTank tank, Model model, Method method, Object[] arguments)
            throws Exception {
        Method twin = Model.class.getMethod(method.getName(), method.getParameterTypes());
        Object got = outcome(method, tank, arguments);
        Object due = outcome(twin, model, arguments);
        if (due instanceof String) {
            refusals++;
        } else {
            answers++;
        }
        if (!got.equals(due)) {
            wrong++;
            System.out.println("run " + run + ": " + method.getName()
                    + java.util.Arrays.toString(arguments) + " answered " + got + ", due is " + due);
        }
    }

    private static Object outcome(Method method, Object on, Object[] arguments) throws Exception {
        try {
            return method.invoke(on, arguments);
        } catch (InvocationTargetException e) {
            return e.getCause().getClass().getName();
        }
    }

    // ---- arguments: mostly good ones, by the places they have in the face

    private Object[] arguments(Method method, RippleTank tank) {
        Object[] values = new Object[method.getParameterCount()];
        Class<?>[] types = method.getParameterTypes();
        String[] kinds = kinds(method.getName());
        for (int i = 0; i < values.length; i++) {
            values[i] = types[i] == boolean.class ? (Object) (pick(2) == 0)
                    : (Object) argument(kinds[i], tank);
        }
        return values;
    }

    private static String[] kinds(String name) {
        switch (name) {
            case "append": return "any any any any any".split(" ");
            case "load": return new String[] {"bytes"};
            case "isOpen": case "writeRow": case "turnRow": return new String[] {"y"};
            case "sourceAt": return "source axis t".split(" ");
            case "property": return "source what".split(" ");
            case "isOn": case "reached": return new String[] {"source"};
            case "amplitude": return "source t".split(" ");
            case "sine": return new String[] {"angle"};
            case "distance": return "dx dy".split(" ");
            case "isBehind": case "shortest": case "phase": case "arrival": case "part":
            case "moveSource": return "source x y".split(" ");
            case "path": return "source x y y".split(" ");
            case "wave": return "x y".split(" ");
            case "waveAt": return "x y t".split(" ");
            case "quietIn": return "x y tolerance steps".split(" ");
            case "gaugeAt": return "gauge axis".split(" ");
            case "peak": case "crossings": case "rhythm": return "gauge n".split(" ");
            case "isNode": return "x y n tolerance".split(" ");
            case "nodes": case "nodeGroups": return "n tolerance".split(" ");
            case "nodeRows": return "y n tolerance".split(" ");
            case "energy": case "bestRow": return "x y n".split(" ");
            case "rowEnergy": return "y n".split(" ");
            case "allEnergy": case "writeMap": return new String[] {"n"};
            case "strongest": return "rank n".split(" ");
            case "marks": return "n share".split(" ");
            case "isMark": return "x y n share".split(" ");
            case "fringes": case "visibility": return "x n".split(" ");
            case "textByte": return new String[] {"byte"};
            case "nodesIfOff": return "source n tolerance".split(" ");
            case "bestPhase": case "bestPlace": return "source x y n".split(" ");
            case "energyIfTurned": return "x y y n".split(" ");
            case "advance": return new String[] {"step"};
            case "setOn": return "source flag".split(" ");
            case "setPhase": return "source angle".split(" ");
            case "setAmp": return "source amp".split(" ");
            case "setDrift": return "source v v".split(" ");
            case "save": case "restore": return new String[] {"slot"};
            default: return new String[0];
        }
    }

    private int argument(String kind, RippleTank tank) {
        if (pick(60) == 0) {
            int[] wild = {Integer.MIN_VALUE, Integer.MAX_VALUE, -1, 10000, 1 << 30, -1000};
            return wild[pick(wild.length)];
        }
        switch (kind) {
            case "any": return pick(1 << 30) * 4 + pick(4);
            case "bytes": return near(0, tank.buffered());
            case "x": return near(0, tank.width() - 1);
            case "y": return near(0, tank.height() - 1);
            case "source": return near(0, tank.sources() - 1);
            case "gauge": return near(0, tank.gauges() - 1);
            case "axis": case "slot": return near(0, 1);
            case "what": return near(0, 5);
            case "t": return pick(2) == 0 ? near(0, 9999) : near(0, 60);
            case "angle": return near(0, 359);
            case "dx": return near(0, 15);
            case "dy": return near(0, 9);
            case "tolerance": return pick(5) == 0 ? near(0, 9999) : near(0, 150);
            case "steps": return near(1, 200);
            case "n": return pick(3) == 0 ? near(1, 40) : near(1, 8);
            case "rank": return near(0, tank.width() * tank.height() - 1);
            case "share": return near(1, 100);
            case "byte": return near(0, 60);
            case "step": return pick(3) == 0 ? near(1, 999) : near(1, 12);
            case "amp": return near(1, 999);
            default: return near(-99, 99);
        }
    }

    /** A number of the range, or now and then the nearest one outside it. */
    private int near(int low, int high) {
        int beyond = pick(40);
        if (beyond == 0) {
            return low - 1;
        }
        if (beyond == 1 || high < low) {
            return high + 1;
        }
        return pick(9) == 0 ? (pick(2) == 0 ? low : high) : low + pick(high - low + 1);
    }

    // ---- texts

    private String text() {
        int width = pick(6) == 0 ? 16 : 1 + pick(9);
        int height = pick(6) == 0 ? 10 : 1 + pick(6);
        StringBuilder text = new StringBuilder("tank width ").append(width);
        text.append(" height ").append(height).append(" fade ");
        text.append(pick(2) == 0 ? 0 : pick(10000));
        boolean wall = pick(3) > 0;
        if (wall) {
            text.append(" wall ").append(pick(width));
        }
        int trains = 1 + pick(4);
        for (int i = 0; i < trains; i++) {
            train(text, width, height);
        }
        int lines = pick(12);
        for (int i = 0; i < lines; i++) {
            line(text, width, height, trains, wall);
        }
        return text.toString();
    }

    private void train(StringBuilder text, int width, int height) {
        int from = pick(3) == 0 ? pick(40) : pick(10) == 0 ? pick(9000) : 0;
        int until = pick(3) == 0 ? from + pick(60) : 9999;
        text.append(";train ").append(pick(width)).append(' ').append(pick(height));
        int length = pick(8) == 0 ? 9999 - pick(5000) : 50 + pick(pick(4) == 0 ? 3 : 600);
        text.append(' ').append(1 + pick(999)).append(' ').append(length);
        text.append(' ').append(pick(2) == 0 ? 2 + pick(8) : 2 + pick(98));
        text.append(' ').append(pick(360)).append(' ').append(from).append(' ').append(until);
        int more = pick(4);
        if (more == 0) {
            text.append(" burst ").append(1 + pick(9)).append(' ').append(1 + pick(9));
        } else if (more == 1) {
            text.append(" rising ").append(1 + pick(30));
        }
    }

    private void line(StringBuilder text, int width, int height, int trains, boolean wall) {
        int x = pick(width);
        int y = pick(height);
        int source = pick(trains);
        switch (pick(9)) {
            case 0:
                text.append(";drift ").append(source).append(signed()).append(signed());
                break;
            case 1:
                text.append(";off ").append(source);
                break;
            case 2:
                text.append(";mirror ").append("left right top bottom".split(" ")[pick(4)]);
                text.append(' ').append(1 + pick(100));
                break;
            case 3:
                text.append(";cut ").append(source).append(' ').append(y * 5).append(' ');
                text.append(y * 5 + pick(10));
                break;
            case 4:
                text.append(";shape ").append(source).append(pick(2) == 0 ? " saw" : " square");
                break;
            case 5:
                text.append(";shoal ").append(x).append(' ').append(y).append(' ');
                text.append(x + pick(width - x)).append(' ').append(y + pick(height - y));
                text.append(' ').append(pick(201));
                break;
            case 6: case 7:
                if (wall) {
                    text.append(";slit ").append(y).append(' ').append(y + pick(height - y));
                }
                break;
            default:
                text.append(";gauge ").append(x).append(' ').append(y);
        }
    }

    private String signed() {
        return (pick(2) == 0 ? " " : pick(2) == 0 ? " -" : " - ") + pick(pick(9) == 0 ? 101 : 100);
    }

    private String spoilt(String text) {
        StringBuilder spoilt = new StringBuilder(text);
        int at = pick(spoilt.length());
        String[] pieces = {"", " ", ";", "-", "0", "9", "99999", "x", "abcdefghi", " off 0", "$",
            ";off 0", ";shape 0 saw", ";gauge 0 0;gauge 0 0;gauge 0 0;gauge 0 0;gauge 0 0", "\u00e9",
            ";cut 0 1 1;cut 0 1 1;cut 0 1 1;cut 0 1 1;cut 0 1 1;cut 0 1 1;cut 0 1 1", ";drift 0 1 1",
            ";shoal 0 0 0 0 1;shoal 0 0 0 0 1;shoal 0 0 0 0 1;shoal 0 0 0 0 1", ";mirror top 3",
            ";train 0 0 1 50 2 0 0 0;train 0 0 1 50 2 0 0 0;train 0 0 1 50 2 0 0 0", ";slit 0 9"};
        String piece = pieces[pick(pieces.length)];
        if (pick(2) == 0) {
            spoilt.append(piece);
        } else if (pick(2) == 0) {
            spoilt.replace(at, Math.min(spoilt.length(), at + 1 + pick(3)), piece);
        } else {
            spoilt.insert(at, piece);
        }
        return spoilt.toString();
    }
}
