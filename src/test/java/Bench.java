import java.nio.charset.StandardCharsets;
import java.util.Arrays;

/** What the tests share: loading texts, and counting answers that are not due. */
final class Bench {
    interface Call {
        Object answer();
    }

    static final String STATE = "IllegalStateException";
    static final String INDEX = "IndexOutOfBoundsException";
    static final String ARGUMENT = "IllegalArgumentException";

    private int checks;
    private int wrong;

    void same(String what, Object got, Object want) {
        checks++;
        boolean equal = got instanceof Number && want instanceof Number && !(want instanceof Float)
                ? ((Number) got).longValue() == ((Number) want).longValue()
                : got.equals(want);
        if (!equal) {
            wrong++;
            System.out.println(what + " answered " + got + ", due is " + want);
        }
    }

    void refused(String what, String exception, Call call) {
        same(what, outcome(call), exception);
    }

    /** The answer of a call, or the simple name of what it throws. */
    static Object outcome(Call call) {
        try {
            return call.answer();
        } catch (RuntimeException e) {
            return e.getClass().getSimpleName();
        }
    }

    void end() {
        System.out.println(checks + " checks, " + wrong + " wrong");
        if (wrong != 0 || checks == 0) {
            System.exit(1);
        }
    }

    static int append(RippleTank tank, String text) {
        byte[] bytes = text.getBytes(StandardCharsets.ISO_8859_1);
        byte[] padded = Arrays.copyOf(bytes, (bytes.length + 19) / 20 * 20);
        Arrays.fill(padded, bytes.length, padded.length, (byte) ' ');
        int answer = tank.buffered();
        for (int at = 0; at < padded.length; at += 20) {
            answer = tank.append(four(padded, at), four(padded, at + 4), four(padded, at + 8),
                    four(padded, at + 12), four(padded, at + 16));
        }
        return answer;
    }

    static int four(byte[] bytes, int at) {
        return (bytes[at] & 255) << 24 | (bytes[at + 1] & 255) << 16
                | (bytes[at + 2] & 255) << 8 | bytes[at + 3] & 255;
    }

    static int load(RippleTank tank, String text) {
        append(tank, text);
        return tank.load(text.length());
    }

    static RippleTank loaded(String text) {
        RippleTank tank = new RippleTank();
        load(tank, text);
        return tank;
    }

    static String textOf(RippleTank tank, int length) {
        StringBuilder text = new StringBuilder();
        for (int i = 0; i < length; i++) {
            text.append((char) tank.textByte(i));
        }
        return text.toString();
    }
}
