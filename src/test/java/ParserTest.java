/** Section 6: texts with the code and the position of their error. */
public final class ParserTest {
    private static final String HEAD = "tank width 5 height 4 fade 0";
    private static final String WALL = HEAD + " wall 2";
    private static final String TRAIN = ";train 0 0 1 50 2 0 0 9999";

    private final Bench b = new Bench();

    public static void main(String[] args) {
        ParserTest test = new ParserTest();
        test.tokens();
        test.heads();
        test.trains();
        test.sourceLines();
        test.otherLines();
        test.limits();
        test.whole();
        test.b.end();
    }

    private void faulty(String text, int code, String at) {
        b.faulty(text, code, at);
    }

    private void faulty(String text, int code, int position) {
        b.faulty(text, code, position);
    }

    private void faultyAtEnd(String text, int code) {
        b.faultyAtEnd(text, code);
    }

    private RippleTank good(String text, int sources) {
        return b.good(text, sources);
    }

    private void tokens() {
        good("tank width5height4fade0" + TRAIN, 1);
        good("  tank  width 0005 height 04 fade 0000  ; train 00 0 1 50 2 0 0 9999  ", 1);
        good(HEAD + ";train0 0 1 50 2 0 0 9999burst1 2", 1);
        faulty("Tank", 1, 0);
        faulty("tankwidth 5", 1, 0);
        faulty("tan", 1, 0);
        faulty("tanks", 1, 0);
        faulty("xank", 1, 0);
        faulty("tank widths", 1, 5);
        faulty("tank,", 1, 4);
        faulty("tank\twidth", 1, 4);
        faulty("tank \u00f4", 1, 5);
        faulty("tank \0", 1, 5);
        faulty("tank width 00005 height", 1, "00005");
        faulty("tank width 99999", 1, "99999");
        faulty("tank width 5 heightsss 5", 1, "heightsss");
        faulty(HEAD + ";abcdefgh", 1, "abcdefgh");
        faulty(HEAD + ";abcdefghi", 1, "abcdefghi");
        faulty(HEAD + TRAIN + ";-", 1, "-");
        faulty(HEAD + TRAIN + "$", 1, "$");
        faulty(HEAD + TRAIN.replace("9999", "99990"), 1, "99990");
        faulty(HEAD + TRAIN.replace("9999", "4294967296"), 1, "4294967296");
        faulty(HEAD + TRAIN.replace(" 50", " 50x"), 1, "x");
    }

    private void heads() {
        faultyAtEnd("", 1);
        faultyAtEnd("tank", 1);
        faultyAtEnd("tank width", 1);
        faultyAtEnd("tank width 5", 1);
        faultyAtEnd("tank width 5 height 4 fade", 1);
        faultyAtEnd(HEAD + " wall", 1);
        faultyAtEnd(HEAD, 5);
        faultyAtEnd(WALL, 5);
        faultyAtEnd(HEAD + ";", 1);
        faultyAtEnd(HEAD + ";mirror left 5", 5);
        faulty("width 5", 1, 0);
        faulty("5", 1, 0);
        faulty(";", 1, 0);
        faulty("tank height", 1, "height");
        faulty("tank width width", 1, 11);
        faulty("tank width - 5", 1, "-");
        faulty("tank width 0", 2, "0");
        faulty("tank width 17", 2, "17");
        faulty("tank width 5 height 0", 2, "0");
        faulty("tank width 5 height 11", 2, "11");
        faulty("tank width 5 height 4 fade wall", 1, "wall");
        faulty(WALL.replace("wall 2", "wall 5") + TRAIN, 2, 34);
        faulty(HEAD + " wall;", 1, ";");
        faulty(HEAD + " train", 1, "train");
        faulty(HEAD + " 5", 1, "5");
        faulty(WALL + " wall 2", 1, 36);
        faulty(HEAD + ";;", 1, HEAD.length() + 1);
        faulty(HEAD + ";wall 2", 1, "wall");
        faulty(HEAD + ";tank", 1, "tank");
        faulty(HEAD + ";3", 1, "3");
        b.same("fade", good("tank width 16 height 10 fade 9999 wall 15" + TRAIN, 1).wall(), 15);
    }

    private void trains() {
        String[] low = {"0", "0", "1", "50", "2", "0", "0", "0"};
        String[] high = {"4", "3", "999", "9999", "99", "359", "9999", "9999"};
        String[] above = {"5", "4", "1000", null, "100", "360", null, null};
        String[] below = {null, null, "0", "49", "1", null, null, null};
        good(HEAD + line(low, 8), 1);
        RippleTank most = good(HEAD + line(high, 8), 1);
        b.same("column", most.sourceAt(0, 0, 0), 4);
        b.same("row", most.sourceAt(0, 1, 0), 3);
        b.same("until", most.property(0, 5), 9999);
        for (int i = 0; i < 8; i++) {
            String text = HEAD + line(low, i);
            faultyAtEnd(text, 1);
            faulty(text + " x", 1, text.length() + 1);
            faulty(text + " -1", 1, text.length() + 1);
            faulty(text + ";", 1, text.length());
            if (above[i] != null) {
                faulty(text + " " + above[i], 2, text.length() + 1);
            }
            if (below[i] != null) {
                faulty(text + " " + below[i] + " 5 5", 2, text.length() + 1);
            }
        }
        faulty(HEAD + ";train 0 0 1 50 2 0 7 6", 2, "6");
        good(HEAD + ";train 0 0 1 50 2 0 7 7", 1);
        String whole = HEAD + TRAIN;
        faulty(whole + " 5", 1, whole.length() + 1);
        faulty(whole + " train", 1, "train");
        faulty(whole + " saw", 1, "saw");
        faultyAtEnd(whole + " burst", 1);
        faultyAtEnd(whole + " burst 1", 1);
        faulty(whole + " burst 0", 2, whole.length() + 7);
        faulty(whole + " burst 100", 2, "100");
        faulty(whole + " burst 99 0", 2, whole.length() + 10);
        faulty(whole + " burst 99 100", 2, "100");
        good(whole + " burst 99 99", 1);
        faulty(whole + " burst 1 1 1", 1, whole.length() + 11);
        faulty(whole + " burst 1 1 rising 1", 1, "rising");
        faulty(whole + " rising 1 burst 1 1", 1, "burst");
        faultyAtEnd(whole + " rising", 1);
        faulty(whole + " rising 0", 2, whole.length() + 8);
        faulty(whole + " rising 100", 2, "100");
        b.same("rising", good(whole + " rising 99", 1).amplitude(0, 0), 0);
    }

    private static String line(String[] numbers, int count) {
        StringBuilder line = new StringBuilder(";train");
        for (int i = 0; i < count; i++) {
            line.append(' ').append(numbers[i]);
        }
        return line.toString();
    }

    private void sourceLines() {
        String t = HEAD + TRAIN + ";train 1 1 2 60 3 1 1 9";
        for (String word : "drift off cut shape".split(" ")) {
            String text = t + ";" + word;
            faultyAtEnd(text, 1);
            faulty(text + " x", 1, "x");
            faulty(text + " -1", 1, "-");
            faulty(text + " 2", 2, text.length() + 1);
            faulty(HEAD + ";" + word + " 0" + TRAIN, 2, HEAD.length() + word.length() + 2);
        }
        faultyAtEnd(t + ";drift 0", 1);
        faultyAtEnd(t + ";drift 0 1", 1);
        faultyAtEnd(t + ";drift 0 -", 1);
        faultyAtEnd(t + ";drift 0 1 -", 1);
        faulty(t + ";drift 0 - -", 1, t.length() + 11);
        faulty(t + ";drift 0 -100 1", 2, "100");
        faulty(t + ";drift 0 1 - 100", 2, "100");
        faulty(t + ";drift 0 100", 2, "100");
        faulty(t + ";drift 0 1 1 1", 1, t.length() + 13);
        faulty(t + ";drift 1 1 1;drift 1 1 1", 3, t.length() + 19);
        RippleTank drift = good(t + ";drift 1 99 - 99;drift 0 -0 -99", 2);
        b.same("VX", drift.sourceAt(1, 0, 102), 4);
        b.same("VY", drift.sourceAt(1, 1, 102), 0);
        faulty(t + ";off 1;off 1", 3, t.length() + 11);
        faulty(t + ";off 1 1", 1, t.length() + 7);
        faulty(t + ";off 1;off 2", 2, t.length() + 11);
        b.same("off", good(t + ";off 1;shape 1 saw;cut 1 1 1;drift 1 1 1", 2).isOn(1), false);
        faultyAtEnd(t + ";shape 0", 1);
        faulty(t + ";shape 0 sine", 1, "sine");
        faulty(t + ";shape 0 0", 1, t.length() + 9);
        faulty(t + ";shape 0 saw saw", 1, t.length() + 13);
        faulty(t + ";shape 0 saw;shape 0 square", 3, t.length() + 19);
        good(t + ";shape 0 saw;shape 1 square", 2);
        faultyAtEnd(t + ";cut 0", 1);
        faultyAtEnd(t + ";cut 0 5", 1);
        faulty(t + ";cut 0 5 4", 2, t.length() + 9);
        faulty(t + ";cut 0 5 10000", 1, "10000");
        RippleTank cut = good(t + ";cut 0 5 5;cut 0 9999 9999;cut 0 0 9", 2);
        b.same("cut", cut.amplitude(0, 5) + cut.amplitude(0, 9999) + cut.amplitude(0, 9), 0);
    }

    private void otherLines() {
        String t = HEAD + TRAIN;
        String w = WALL + TRAIN;
        faulty(t + ";slit 0 0", 2, t.length() + 6);
        faulty(t + ";slit x", 1, "x");
        faultyAtEnd(t + ";slit", 1);
        faultyAtEnd(w + ";slit 0", 1);
        faulty(w + ";slit 4 4", 2, w.length() + 6);
        faulty(w + ";slit 0 4", 2, w.length() + 8);
        faulty(w + ";slit 2 1", 2, w.length() + 8);
        b.same("slits", good(w + ";slit 3 3;slit 0 1;slit 1 1", 1).openRows(), 11);
        b.same("slits before trains", good(WALL + ";slit 0 3" + TRAIN, 1).openRows(), 15);
        faultyAtEnd(t + ";mirror", 1);
        faultyAtEnd(t + ";mirror left", 1);
        faulty(t + ";mirror up 1", 1, "up");
        faulty(t + ";mirror 1", 1, t.length() + 8);
        for (String side : "left right top bottom".split(" ")) {
            String text = t + ";mirror " + side;
            faulty(text + " 0", 2, text.length() + 1);
            faulty(text + " 101", 2, text.length() + 1);
            good(text + " 1", 1);
            good(text + " 100", 1);
            faulty(text + " 1;mirror " + side + " 1", 3, text.length() + 10);
            faulty(text + " 1;mirror " + side, 3, text.length() + 10);
        }
        good(t + ";mirror left 1;mirror right 2;mirror top 3;mirror bottom 4", 1);
        String[] shoal = {"4", "3", "4", "3", "200"};
        StringBuilder text = new StringBuilder(t + ";shoal");
        for (String number : shoal) {
            faultyAtEnd(text.toString(), 1);
            faulty(text + " " + (Integer.parseInt(number) + 1), 2, text.length() + 1);
            text.append(' ').append(number);
        }
        good(text.toString(), 1);
        faulty(t + ";shoal 2 2 1 2 0", 2, t.length() + 11);
        faulty(t + ";shoal 2 2 2 1 0", 2, t.length() + 13);
        faulty(t + ";shoal 0 0 0 0 0 0", 1, t.length() + 17);
        faultyAtEnd(t + ";gauge", 1);
        faultyAtEnd(t + ";gauge 4", 1);
        faulty(t + ";gauge 5", 2, t.length() + 7);
        faulty(t + ";gauge 4 4", 2, t.length() + 9);
        b.same("gauge", good(t + ";gauge 4 3", 1).gaugeAt(0, 0), 4);
    }

    private void limits() {
        good(HEAD + TRAIN.repeat(4), 4);
        faulty(HEAD + TRAIN.repeat(5), 4, "train");
        faulty(HEAD + TRAIN.repeat(4) + ";train", 4, "train");
        faulty(HEAD + TRAIN.repeat(4) + ";off 0;train x", 4, "train");
        String t = HEAD + TRAIN.repeat(2);
        good(t + ";cut 0 1 2".repeat(3) + ";cut 1 1 2".repeat(3), 2);
        good(t + ";cut 0 1 2".repeat(6), 2);
        faulty(t + ";cut 0 1 2".repeat(3) + ";cut 1 1 2".repeat(4), 4, "cut");
        faulty(t + ";cut 0 1 2".repeat(6) + ";cut 9", 4, "cut");
        good(t + ";shoal 0 0 0 0 1".repeat(3), 2);
        faulty(t + ";shoal 0 0 0 0 1".repeat(3) + ";shoal", 4, "shoal");
        good(t + ";gauge 0 0".repeat(4), 2);
        faulty(t + ";gauge 0 0".repeat(5), 4, "gauge");
    }

    /** A text of the whole buffer, and a tank that keeps nothing of the one before. */
    private void whole() {
        String slits = WALL + TRAIN;
        while (slits.length() + 9 <= 900) {
            slits += ";slit 0 0";
        }
        while (slits.length() < 900) {
            slits += " ";
        }
        RippleTank t = good(slits, 1);
        Bench.load(t, HEAD + TRAIN + " burst 1 1;shape 0 saw;drift 0 50 50;off 0;cut 0 0 9999"
                + ";mirror left 100;shoal 0 0 4 3 0;gauge 1 1");
        b.same("no rows kept", t.openRows(), 0);
        Bench.load(t, slits);
        Bench.load(t, HEAD + ";train 0 0 100 100 4 90 0 9999");
        b.same("no slits kept", t.openRows(), 0);
        b.same("no wall kept", t.wall(), RippleTank.NONE);
        b.same("no gauge kept", t.gauges(), 0);
        b.same("no burst and no cut kept", t.amplitude(0, 1), 100);
        b.same("no drift kept", t.sourceAt(0, 0, 100), 0);
        b.same("not off", t.isOn(0), true);
        b.same("no shape and no shoal kept", t.wave(0, 0), 100);
        b.same("no mirror kept", t.waveAt(0, 0, 40), 100);
        b.same("no rise kept", Bench.load(t, HEAD + TRAIN + " rising 2"), 1);
        Bench.load(t, HEAD + TRAIN);
        Bench.load(t, HEAD + TRAIN);
        b.same("no rise", t.amplitude(0, 0), 1);
    }
}
