import java.nio.charset.StandardCharsets;
import java.util.Arrays;
import java.util.function.IntFunction;

/** What the tests share: loading texts, and counting answers that are not due. */
final class Bench {
    interface Call {
        Object answer();
    }

    private static final int[] FAR = {Integer.MIN_VALUE, -1_000_000, 1_000_000, Integer.MAX_VALUE};
    static final String STATE = "IllegalStateException";
    static final String INDEX = "IndexOutOfBoundsException";
    static final String ARGUMENT = "IllegalArgumentException";

    private int checks;
    private int wrong;
    private int sentences;
    private int checksBefore;
    private String sentence = "";

    /** Tells which words of the document the next checks stand for, and that they are there. */
    void sentence(String part, String words) {
        endSentence();
        sentences++;
        sentence = part + ", \"" + words + "\": ";
        same("these words", Document.says(part, words), true);
        checksBefore = checks;
    }

    private void endSentence() {
        if (!sentence.isEmpty() && checks == checksBefore) {
            wrong++;
            System.out.println(sentence + "nothing is checked");
        }
    }

    void same(String what, Object got, Object want) {
        checks++;
        boolean equal = got instanceof Number && want instanceof Number && !(want instanceof Float)
                ? ((Number) got).longValue() == ((Number) want).longValue()
                : got.equals(want);
        if (!equal) {
            wrong++;
            System.out.println(sentence + what + " answered " + got + ", due is " + want);
        }
    }

    void refused(String what, String exception, Call call) {
        same(what, outcome(call), exception);
    }

    /** The answer of a call, or the simple name of what it throws. */
    static Object outcome(Call call) {
        try {
            return call.answer();
        } catch (RuntimeException e) {
            return e.getClass().getSimpleName();
        }
    }

    void end() {
        endSentence();
        System.out.println(checks + " checks"
                + (sentences > 0 ? " of " + sentences + " sentences, " : ", ") + wrong + " wrong");
        if (wrong != 0 || checks == 0) {
            System.exit(1);
        }
    }

    /** Refused are the given values, and those that are far from every range. */
    void refusedAll(String what, String exception, IntFunction<Object> call, int... values) {
        for (int value : values) {
            refused(what + " of " + value, exception, () -> call.apply(value));
        }
        for (int value : FAR) {
            refused(what + " of " + value, exception, () -> call.apply(value));
        }
    }

    // ---- texts

    RippleTank good(String text, int sources) {
        RippleTank t = new RippleTank();
        same("load of " + text, outcome(() -> load(t, text)), sources);
        same("code of " + text, t.parseError(), 0);
        same("position of " + text, t.errorPosition(), RippleTank.NONE);
        return t;
    }

    void faulty(String text, int code, int position) {
        RippleTank t = new RippleTank();
        refused("load of " + text, ARGUMENT, () -> load(t, text));
        same("code of " + text, t.parseError(), code);
        same("position of " + text, t.errorPosition(), position);
        same("tank of " + text, t.sources(), 0);
    }

    /** The position is where the last occurrence of a part of the text begins. */
    void faulty(String text, int code, String at) {
        faulty(text, code, text.lastIndexOf(at));
    }

    void faultyAtEnd(String text, int code) {
        faulty(text, code, text.length());
        faulty(text + "  ", code, text.length() + 2);
    }

    static int append(RippleTank tank, String text) {
        byte[] bytes = text.getBytes(StandardCharsets.ISO_8859_1);
        byte[] padded = Arrays.copyOf(bytes, (bytes.length + 19) / 20 * 20);
        Arrays.fill(padded, bytes.length, padded.length, (byte) ' ');
        int answer = tank.buffered();
        for (int at = 0; at < padded.length; at += 20) {
            answer = tank.append(four(padded, at), four(padded, at + 4), four(padded, at + 8),
                    four(padded, at + 12), four(padded, at + 16));
        }
        return answer;
    }

    static int four(byte[] bytes, int at) {
        return (bytes[at] & 255) << 24 | (bytes[at + 1] & 255) << 16
                | (bytes[at + 2] & 255) << 8 | bytes[at + 3] & 255;
    }

    static int load(RippleTank tank, String text) {
        append(tank, text);
        return tank.load(text.length());
    }

    static RippleTank loaded(String text) {
        RippleTank tank = new RippleTank();
        load(tank, text);
        return tank;
    }

    static String textOf(RippleTank tank, int length) {
        StringBuilder text = new StringBuilder();
        for (int i = 0; i < length; i++) {
            text.append((char) tank.textByte(i));
        }
        return text.toString();
    }
}
