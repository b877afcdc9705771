/** All that the questions of a tank show, as a text, so that two tanks can be compared. */
final class View {
    private View() {
    }

    /** What is seen now, then before each change that can be undone, then in both slots. */
    static String ofWholeLife(RippleTank t) {
        StringBuilder text = new StringBuilder(of(t));
        while (t.undoable() > 0) {
            text.append("\nundo ").append(t.undo()).append(of(t));
        }
        for (int slot = 0; slot < 2; slot++) {
            int number = slot;
            text.append("\nslot ").append(Bench.outcome(() -> t.restore(number))).append(of(t));
        }
        return text.toString();
    }

    static String of(RippleTank t) {
        StringBuilder text = new StringBuilder();
        text.append(" load ").append(t.parseError()).append('@').append(t.errorPosition());
        text.append(" buffered ").append(t.buffered()).append(" undoable ").append(t.undoable());
        text.append(" time ").append(t.time()).append(" cells ").append(t.width()).append('x');
        text.append(t.height()).append(" wall ").append(Bench.outcome(() -> t.wall()));
        text.append(" open ").append(Bench.outcome(() -> t.openRows())).append(" written ");
        for (int i = 0; i < 256; i++) {
            int at = i;
            Object sign = Bench.outcome(() -> t.textByte(at));
            if (sign instanceof Integer) {
                text.append((char) (int) (Integer) sign);
            }
        }
        sources(t, text);
        waves(t, text);
        return text.toString();
    }

    private static void sources(RippleTank t, StringBuilder text) {
        for (int source = 0; source < t.sources(); source++) {
            text.append(" source ").append(t.isOn(source));
            for (int what = 0; what < 6; what++) {
                text.append(' ').append(t.property(source, what));
            }
            for (int axis = 0; axis < 2; axis++) {
                text.append(' ').append(t.sourceAt(source, axis, 0));
                text.append(' ').append(t.sourceAt(source, axis, 120));
                text.append(' ').append(t.sourceAt(source, axis, 9999));
            }
        }
        for (int gauge = 0; gauge < t.gauges(); gauge++) {
            text.append(" gauge ").append(t.gaugeAt(gauge, 0)).append(t.gaugeAt(gauge, 1));
        }
    }

    private static void waves(RippleTank t, StringBuilder text) {
        for (int y = 0; y < t.height(); y++) {
            for (int x = 0; x < t.width(); x++) {
                text.append(' ').append(t.wave(x, y));
            }
        }
    }
}
