/** The boundaries of promises 1 to 6 and of section 6, sentence by sentence. */
public final class TextBoundsTest {
    private static final String HEAD = "tank width 5 height 4 fade 0";
    private static final String WALL = HEAD + " wall 2";
    private static final String TRAIN = ";train 0 0 1 50 2 0 0 9999";
    private static final String TWO = HEAD + TRAIN + TRAIN;

    private final Bench b = new Bench();

    public static void main(String[] args) {
        TextBoundsTest test = new TextBoundsTest();
        test.newObject();
        test.appending();
        test.loading();
        test.loadingAgain();
        test.failing();
        test.errorQuestions();
        test.words();
        test.numbers();
        test.blanks();
        test.headNumbers();
        test.trainNumbers();
        test.sourceNumbers();
        test.driftNumbers();
        test.slitNumbers();
        test.otherNumbers();
        test.counts();
        test.firstError();
        test.positions();
        test.wrongTokens();
        test.incompleteLines();
        test.toldTwice();
        test.noTrain();
        test.b.end();
    }

    // ---- promises 1 to 6

    private void newObject() {
        b.sentence("promise 1", "Creates an object without a tank and with an empty input buffer.");
        RippleTank t = new RippleTank();
        b.same("buffered", t.buffered(), 0);
        b.same("width", t.width(), 0);
        b.same("height", t.height(), 0);
        b.same("sources", t.sources(), 0);
        b.refused("wave", Bench.STATE, () -> t.wave(0, 0));
        b.refused("load of a byte", Bench.INDEX, () -> t.load(1));
        b.same("first append", t.append(0, 0, 0, 0, 0), 20);
    }

    private void appending() {
        b.sentence("promise 2", "in order, the most significant byte first");
        RippleTank t = new RippleTank();
        t.append(0x74616e6b, 0x20776964, 0x74682031, 0x36206865, 0x69676874);
        t.append(0x20396661, 0x64653020, 0x3b747261, 0x696e2030, 0x20302031);
        t.append(0x20353020, 0x32203020, 0x30203020, -1, Integer.MIN_VALUE);
        b.same("the text that the bytes make", t.load(52), 1);
        b.same("its width", t.width(), 16);
        b.same("its height", t.height(), 9);
        for (int at = 0; at < 20; at++) {
            char[] bytes = " ".repeat(20).toCharArray();
            bytes[at] = '-';
            b.faulty(new String(bytes), 1, at);
            bytes[at] = (char) 255;
            b.faulty(new String(bytes), 1, at);
        }
        b.sentence("section 6", "The input buffer holds at most 900 bytes.");
        b.same("45 times twenty", full().buffered(), 900);
        b.sentence("promise 2", "NONE if there would be more than 900, in which case nothing is "
                + "appended.");
        String text = HEAD + TRAIN;
        RippleTank most = new RippleTank();
        Bench.append(most, text + " ".repeat(840 - text.length()));
        b.same("860", most.append(0x20202020, 0x20202020, 0x20202020, 0x20202020, 0x20202020), 860);
        b.same("880", Bench.append(most, " ".repeat(20)), 880);
        b.same("900", Bench.append(most, " ".repeat(20)), 900);
        b.same("920", most.append(0, 0, 0, 0, 0), RippleTank.NONE);
        b.same("920 again", most.append(-1, -1, -1, -1, -1), RippleTank.NONE);
        b.same("nothing is appended", most.buffered(), 900);
        b.refused("load of 901", Bench.INDEX, () -> most.load(901));
        b.same("no byte is another one", most.load(900), 1);
        b.same("room again", most.append(0, 0, 0, 0, 0), 20);
        b.sentence("promise 6", "Returns 0 to 900.");
        b.same("none", new RippleTank().buffered(), 0);
        b.same("all", full().buffered(), 900);
    }

    private static RippleTank full() {
        RippleTank t = new RippleTank();
        for (int i = 0; i < 45; i++) {
            t.append(0x20202020, 0x20202020, 0x20202020, 0x20202020, 0x20202020);
        }
        return t;
    }

    private void loading() {
        b.sentence("promise 3", "Parses the first n bytes of the input buffer");
        RippleTank t = new RippleTank();
        String text = HEAD + TRAIN;
        Bench.append(t, text + TRAIN);
        b.same("only the first train", t.load(text.length()), 1);
        Bench.append(t, text + TRAIN);
        b.same("both", t.load(text.length() + TRAIN.length()), 2);
        Bench.append(t, text);
        b.same("only a part of the last number", t.load(text.length() - 3), 1);
        b.same("UNTIL", t.property(0, 5), 9);
        b.sentence("promise 3", "and empties the buffer, even if the parse fails");
        b.same("after a success", t.buffered(), 0);
        b.refused("load of a byte", Bench.INDEX, () -> t.load(1));
        Bench.append(t, text);
        b.refused("a failure", Bench.ARGUMENT, () -> t.load(5));
        b.same("after a failure", t.buffered(), 0);
        b.refused("load of a byte then", Bench.INDEX, () -> t.load(1));
        b.sentence("promise 3", "On success the tank replaces the previous one, the time is 0, "
                + "nothing can be undone, and no state is saved.");
        RippleTank old = Bench.loaded(WALL + TRAIN + ";gauge 0 0;slit 0 3");
        old.advance(9);
        old.save(0);
        old.save(1);
        Bench.load(old, "tank width 2 height 1 fade 7" + TRAIN + TRAIN);
        b.same("all of it is new", View.ofWholeLife(old),
                View.ofWholeLife(Bench.loaded("tank width 2 height 1 fade 7" + TRAIN + TRAIN)));
        b.refused("slot 0", Bench.STATE, () -> old.restore(0));
        b.refused("slot 1", Bench.STATE, () -> old.restore(1));
        b.refused("undo", Bench.STATE, () -> old.undo());
        b.sentence("promise 3", "Returns the number of sources.");
        b.same("one", Bench.load(t, HEAD + TRAIN), 1);
        b.same("four", Bench.load(t, HEAD + TRAIN.repeat(4)), 4);
    }

    /** Whatever was loaded and asked before, a text makes the tank that a new object makes of it. */
    private void loadingAgain() {
        b.sentence("promise 3", "On success the tank replaces the previous one,");
        String rich = "tank width 16 height 10 fade 9 wall 1;train 9 9 999 60 9 359 0 9999 burst 9 9"
                + ";train 8 8 998 61 8 1 9 99 rising 99;train 3 3 7 70 7 7 7 7 burst 3 5"
                + ";train 5 5 500 90 3 3 0 9999 rising 9;off 0;off 1;off 2;off 3;slit 0 9"
                + ";drift 0 99 99;drift 1 -99 99;drift 2 9 9;drift 3 -9 -9;shape 0 saw;shape 1 square"
                + ";shape 2 saw;shape 3 square;mirror left 100;mirror right 99;mirror top 98"
                + ";mirror bottom 97;cut 0 0 9999;cut 1 0 9999;cut 2 0 9999;cut 3 0 9999"
                + ";shoal 0 0 9 9 0;shoal 0 0 0 0 200;gauge 9 9;gauge 1 1";
        String plain = "tank width 7 height 3 fade 0;train 1 1 900 300 9 90 0 9999"
                + ";train 1 2 900 300 9 90 0 9999;train 3 1 900 300 9 90 0 9999"
                + ";train 4 1 900 300 9 90 0 9999";
        String walled = plain.replace("fade 0", "fade 0 wall 2");
        for (String text : new String[] {plain, walled, rich, plain + " burst 2 1",
            plain + " rising 3", plain.replace(" 9999;", " 9999 rising 9;"),
            plain + ";mirror top 9;cut 3 9 9"}) {
            String due = seen(Bench.loaded(text));
            for (String first : new String[] {rich, walled, plain}) {
                for (int times = 1; times <= 3; times++) {
                    RippleTank t = new RippleTank();
                    for (int i = 0; i < times; i++) {
                        Bench.load(t, first);
                        live(t);
                    }
                    b.refused("a load that fails", Bench.ARGUMENT, () -> Bench.load(t, rich + ";"));
                    b.same("load after it", Bench.load(t, text), 4);
                    b.same(text + " after " + times + " of " + first, seen(t), due);
                }
            }
        }
    }

    /** Changes, saved states and questions of all kinds that reckon with another state. */
    private static void live(RippleTank t) {
        t.advance(999);
        t.setDrift(0, 9, 9);
        t.setAmp(1, 9);
        t.save(0);
        t.save(1);
        t.setOn(2, false);
        t.nodesIfOff(0, 2, 5);
        t.bestPhase(1, 3, 1, 2);
        t.bestPlace(2, 3, 1, 2);
        t.bestRow(3, 1, 2);
    }

    private static String seen(RippleTank t) {
        StringBuilder text = new StringBuilder(View.of(t));
        for (int time = 0; time < 40; time += 3) {
            for (int source = 0; source < t.sources(); source++) {
                text.append(' ').append(t.amplitude(source, time));
            }
            for (int y = 0; y < t.height(); y++) {
                for (int x = 0; x < t.width(); x++) {
                    text.append(' ').append(t.waveAt(x, y, time));
                }
            }
        }
        return text.toString();
    }

    private void failing() {
        b.sentence("promise 3", "Throws `IndexOutOfBoundsException` if n is negative or greater than "
                + "the number of bytes in the buffer; the buffer, parseError() and errorPosition() "
                + "stay");
        RippleTank t = new RippleTank();
        b.refusedAll("n of an empty buffer", Bench.INDEX, n -> t.load(n), -1, 1);
        b.same("no error yet", t.parseError(), 0);
        b.same("no position yet", t.errorPosition(), RippleTank.NONE);
        Bench.append(t, "tank width 77");
        b.refused("an error", Bench.ARGUMENT, () -> t.load(13));
        Bench.append(t, "tank");
        b.refusedAll("n", Bench.INDEX, n -> t.load(n), -1, 21, 900);
        b.same("the buffer stays", t.buffered(), 20);
        b.same("the error stays", t.parseError(), 2);
        b.same("its position stays", t.errorPosition(), 11);
        b.refused("all bytes of it", Bench.ARGUMENT, () -> t.load(20));
        b.same("read to their end", t.errorPosition(), 20);
        b.refused("no byte of none", Bench.ARGUMENT, () -> t.load(0));
        b.same("an empty text", t.parseError(), 1);
        b.same("at its end", t.errorPosition(), 0);
        b.sentence("promise 3", "Throws `IllegalArgumentException` if the text has an error; the "
                + "previous tank stays");
        String text = WALL + TRAIN + ";slit 1 2;drift 0 3 3;gauge 1 1;mirror top 5";
        String[] bad = {"", "tank", HEAD, HEAD + ";", "tank width 1 height 1 fade 5 wall 0" + TRAIN
                + ";slit 0 0;gauge 0 0;shoal 0 0 0 0 5;drift 0 9 9;off 0;mirror left 5;cut 0 0 9 9"};
        for (String other : bad) {
            RippleTank kept = lived(text);
            b.refused("load of " + other, Bench.ARGUMENT, () -> Bench.load(kept, other));
            b.same("all but the error is as it was", withoutLoad(kept), withoutLoad(lived(text)));
        }
        b.sentence("section 7", "except that load empties the input buffer and sets parseError() and "
                + "errorPosition()");
        RippleTank last = lived(text);
        b.refused("load of a part", Bench.ARGUMENT, () -> Bench.load(last, "tank width x"));
        b.same("the buffer", last.buffered(), 0);
        b.same("parseError", last.parseError(), 1);
        b.same("errorPosition", last.errorPosition(), 11);
    }

    private static RippleTank lived(String text) {
        RippleTank t = Bench.loaded(text);
        t.advance(5);
        t.save(1);
        t.setAmp(0, 500);
        t.turnRow(0);
        t.writeRow(0);
        return t;
    }

    private static String withoutLoad(RippleTank t) {
        return View.ofWholeLife(t).replaceAll("load \\d@-?\\d+", "");
    }

    private void errorQuestions() {
        b.sentence("promise 4", "Returns the code 1 to 5; 0 if that call succeeded or if there was "
                + "none.");
        RippleTank t = new RippleTank();
        b.same("there was none", t.parseError(), 0);
        String[] texts = {"", HEAD + TRAIN + ";gauge 5 0", HEAD + TRAIN + ";off 0;off 0",
            HEAD + TRAIN.repeat(5), HEAD};
        for (int code = 1; code <= 5; code++) {
            String text = texts[code - 1];
            b.refused("load with error " + code, Bench.ARGUMENT, () -> Bench.load(t, text));
            b.same("its code", t.parseError(), code);
            b.refused("no load", Bench.INDEX, () -> t.load(-1));
            b.same("its code still", t.parseError(), code);
        }
        Bench.load(t, HEAD + TRAIN);
        b.same("it succeeded", t.parseError(), 0);
        b.sentence("promise 5", "Returns the position; NONE if parseError() is 0.");
        b.same("it succeeded", t.errorPosition(), RippleTank.NONE);
        b.same("there was none", new RippleTank().errorPosition(), RippleTank.NONE);
        b.refused("an error at the first byte", Bench.ARGUMENT, () -> Bench.load(t, "x"));
        b.same("its position", t.errorPosition(), 0);
        Bench.append(t, HEAD + ";" + " ".repeat(899 - HEAD.length()));
        b.refused("an error after the last byte", Bench.ARGUMENT, () -> t.load(900));
        b.same("its position", t.errorPosition(), 900);
    }

    // ---- section 6: tokens

    private void words() {
        b.sentence("section 6", "Tokens are words (1 to 8 lower-case letters)");
        b.faulty("t", 1, 0);
        b.faulty(HEAD + ";abcdefgh 1", 1, "abcdefgh");
        b.faulty(HEAD + ";abcdefghi 1", 1, "abcdefghi");
        b.faulty(HEAD + ";" + "train".repeat(9), 1, HEAD.length() + 1);
        b.faulty("tankTANK", 1, 4);
        b.sentence("section 6", "A run of letters ends at the first byte that is not a lower-case "
                + "letter");
        b.good("tank width5height4fade0;train0 0 1 50 2 0 0 0rising9;shape0saw;off0;gauge0 0", 1);
        b.faulty("tankwidth5", 1, 0);
        b.faulty("tanka width 5", 1, 0);
        b.faulty("tankz width 5", 1, 0);
        for (char next : new char[] {'`', '{', 'A', 'Z', '@', '[', 0, 31, 33, 127, 128, 225, 255}) {
            b.faulty("tank" + next + "width 5", 1, 4);
            b.faulty("tank width 5 heigh" + next, 1, 13);
        }
        b.good(HEAD + ";train 0 0 1 50 2 0 0 0;shape 0 square;mirror left 1;mirror bottom 1", 1);
    }

    private void numbers() {
        b.sentence("section 6", "numbers (1 to 4 digits)");
        b.good("tank width 0005 height 0004 fade 0000;train 0003 0002 0001 0050 02 000 00 0", 1);
        b.faulty("tank width 00005 height 4", 1, "00005");
        b.faulty("tank width 5 height 4 fade 99999", 1, "99999");
        b.faulty("tank width 5 height 4 fade 10000", 1, "10000");
        b.faulty("tank width 5 height 4 fade 4294967297", 1, "4294967297");
        b.faulty("tank width 5 height 4 fade " + "0".repeat(800), 1, 27);
        b.sentence("section 6", "a run of digits ends at the first byte that is not a digit");
        b.good("tank width 5height 4fade 0wall 2;train 0 0 1 50 2 0 0 9burst 1 1", 1);
        for (char next : new char[] {'/', ':', '.', '+', ',', 0, 31, 33, 176, 185, 255}) {
            b.faulty("tank width 5" + next + "height 4", 1, 12);
        }
        b.faulty("tank width 5-height 4", 1, 12);
        b.faulty("tank width 5;height 4", 1, 12);
    }

    private void blanks() {
        b.sentence("section 6", "Blanks (byte 32) only separate tokens.");
        b.good("  tank  width 5 height 4   fade 0 ; train 0 0 1 50 2 0 0 9999 ;drift 0 -  5 -5  ", 1);
        b.good("tank width 5 height 4 fade 0;train 0 0 1 50 2 0 0 9999;drift 0-5-5", 1);
        b.faulty("tank wi dth 5", 1, 5);
        b.faulty("tank width 1 6 height 4", 1, 13);
        for (char other : new char[] {0, 9, 10, 13, 31, 33, 160}) {
            b.faulty("tank" + other + "width", 1, 4);
            b.faulty(HEAD + TRAIN + other, 1, HEAD.length() + TRAIN.length());
            b.faulty(other + HEAD + TRAIN, 1, 0);
        }
    }

    // ---- section 6: the bounds of numbers

    /** A number of a text: both bounds are taken, and what lies beside them is error 2 there. */
    private void bounds(String before, int low, int high, String after) {
        for (int taken : new int[] {low, high}) {
            b.same("load of " + before + taken + after,
                    Bench.outcome(() -> Bench.load(new RippleTank(), before + taken + after))
                            instanceof Integer, true);
        }
        if (low > 0) {
            b.faulty(before + (low - 1) + after, 2, before.length());
        }
        b.faulty(before + (high + 1) + after, high < 9999 ? 2 : 1, before.length());
        b.faulty(before + "-" + low + after, 1, before.length());
        b.faulty(before + "00000" + after, 1, before.length());
        b.faulty(before + "x" + after, 1, before.length());
    }

    private void headNumbers() {
        b.sentence("section 6", "WIDTH is 1 to 16, HEIGHT 1 to 10, FADE 0 to 9999, COLUMN 0 to "
                + "WIDTH - 1.");
        bounds("tank width ", 1, 16, " height 4 fade 0" + TRAIN);
        bounds("tank width 5 height ", 1, 10, " fade 0" + TRAIN);
        bounds("tank width 5 height 4 fade ", 0, 9999, TRAIN);
        bounds("tank width 5 height 4 fade 0 wall ", 0, 4, TRAIN);
        bounds("tank width 1 height 1 fade 0 wall ", 0, 0, TRAIN);
        bounds("tank width 16 height 1 fade 0 wall ", 0, 15, TRAIN);
    }

    private void trainNumbers() {
        b.sentence("section 6", "X is 0 to WIDTH - 1, Y 0 to HEIGHT - 1, AMP 1 to 999, LENGTH 50 to "
                + "9999, PERIOD 2 to 99, PHASE 0 to 359, FROM 0 to 9999, UNTIL FROM to 9999;");
        bounds(HEAD + ";train ", 0, 4, " 0 1 50 2 0 0 0");
        bounds("tank width 16 height 1 fade 0;train ", 0, 15, " 0 1 50 2 0 0 0");
        bounds(HEAD + ";train 4 ", 0, 3, " 1 50 2 0 0 0");
        bounds("tank width 1 height 10 fade 0;train 0 ", 0, 9, " 1 50 2 0 0 0");
        bounds(HEAD + ";train 4 3 ", 1, 999, " 50 2 0 0 0");
        bounds(HEAD + ";train 4 3 1 ", 50, 9999, " 2 0 0 0");
        bounds(HEAD + ";train 4 3 1 50 ", 2, 99, " 0 0 0");
        bounds(HEAD + ";train 4 3 1 50 2 ", 0, 359, " 0 0");
        bounds(HEAD + ";train 4 3 1 50 2 0 ", 0, 9999, " 9999");
        bounds(HEAD + ";train 4 3 1 50 2 0 0 ", 0, 9999, "");
        bounds(HEAD + ";train 4 3 1 50 2 0 7 ", 7, 9999, "");
        bounds(HEAD + ";train 4 3 1 50 2 0 9999 ", 9999, 9999, "");
        b.sentence("section 6", "ON, OFF and RISE are 1 to 99.");
        bounds(HEAD + TRAIN + " burst ", 1, 99, " 1");
        bounds(HEAD + TRAIN + " burst 1 ", 1, 99, "");
        bounds(HEAD + TRAIN + " rising ", 1, 99, "");
    }

    private void sourceNumbers() {
        b.sentence("section 6", "SOURCE is the number of an earlier train;");
        for (String line : new String[] {"drift # 1 1", "off #", "cut # 0 9", "shape # saw"}) {
            String before = ";" + line.substring(0, line.indexOf('#'));
            String after = line.substring(line.indexOf('#') + 1);
            bounds(HEAD + TRAIN + before, 0, 0, after);
            bounds(TWO + before, 0, 1, after);
            bounds(TWO + TRAIN + TRAIN + before, 0, 3, after);
            b.faulty(HEAD + before + "0" + after + TRAIN, 2, HEAD.length() + before.length());
            b.faulty(HEAD + TRAIN + before + "1" + after + TRAIN, 2,
                    HEAD.length() + TRAIN.length() + before.length());
        }
        b.sentence("section 6", "in a cut line FROM is 0 to 9999 and UNTIL FROM to 9999;");
        bounds(TWO + ";cut 1 ", 0, 9999, " 9999");
        bounds(TWO + ";cut 1 0 ", 0, 9999, "");
        bounds(TWO + ";cut 1 50 ", 50, 9999, "");
        bounds(TWO + ";cut 1 9999 ", 9999, 9999, "");
    }

    private void driftNumbers() {
        b.sentence("section 6", "the signed numbers of a drift are VX and VY, -99 to 99.");
        String wide = "tank width 16 height 10 fade 0;train 0 9 1 50 2 0 0 0;drift 0 ";
        RippleTank most = b.good(wide + "99 -99", 1);
        b.same("VX 99 in ten steps", most.sourceAt(0, 0, 10), 9);
        b.same("VY -99 in nine steps", most.sourceAt(0, 1, 9), 1);
        RippleTank least = b.good(wide.replace("train 0 9", "train 15 0") + "-99 99", 1);
        b.same("VX -99 in ten steps", least.sourceAt(0, 0, 10), 6);
        b.same("VY 99 in nine steps", least.sourceAt(0, 1, 9), 8);
        b.good(HEAD + TRAIN + ";drift 0 -0 - 00", 1);
        String text = HEAD + TRAIN + ";drift 0 ";
        b.faulty(text + "100 1", 2, "100");
        b.faulty(text + "-100 1", 2, "100");
        b.faulty(text + "1 100", 2, "100");
        b.faulty(text + "1 -100", 2, "100");
        b.faulty(text + "9999 1", 2, "9999");
        b.faulty(text + "-10000 1", 1, "10000");
        b.faulty(text + "--1 1", 1, text.length() + 1);
    }

    private void slitNumbers() {
        b.sentence("section 6", "A slit opens the rows from the first ROW to the second one; a ROW is "
                + "0 to HEIGHT - 1, the second one at least the first one;");
        bounds(WALL + TRAIN + ";slit ", 0, 3, " 3");
        bounds(WALL + TRAIN + ";slit 0 ", 0, 3, "");
        bounds(WALL + TRAIN + ";slit 2 ", 2, 3, "");
        bounds("tank width 1 height 10 fade 0 wall 0" + TRAIN + ";slit 9 ", 9, 9, "");
        b.same("one row", Bench.loaded(WALL + TRAIN + ";slit 2 2").openRows(), 4);
        b.same("all rows", Bench.loaded(WALL + TRAIN + ";slit 0 3").openRows(), 15);
        b.same("the first rows", Bench.loaded(WALL + TRAIN + ";slit 0 1").openRows(), 3);
        b.same("the last rows", Bench.loaded(WALL + TRAIN + ";slit 2 3").openRows(), 12);
        b.same("two lines", Bench.loaded(WALL + ";slit 0 1;slit 1 2" + TRAIN).openRows(), 7);
        b.sentence("section 6", "without a wall no ROW is in its bounds");
        b.faulty(HEAD + TRAIN + ";slit 0 0", 2, HEAD.length() + TRAIN.length() + 6);
        b.faulty(HEAD + TRAIN + ";slit 3 3", 2, HEAD.length() + TRAIN.length() + 6);
        b.good(WALL.replace("wall 2", "wall 0") + TRAIN + ";slit 0 0", 1);
    }

    private void otherNumbers() {
        b.sentence("section 6", "PERCENT is 1 to 100 for a mirror, 0 to 200 for a shoal;");
        for (String side : "left right top bottom".split(" ")) {
            bounds(HEAD + TRAIN + ";mirror " + side + " ", 1, 100, "");
        }
        bounds(HEAD + TRAIN + ";shoal 0 0 4 3 ", 0, 200, "");
        b.sentence("section 6", "in a shoal line the second X is X to WIDTH - 1 and the second Y is Y "
                + "to HEIGHT - 1.");
        bounds(HEAD + TRAIN + ";shoal ", 0, 4, " 0 4 3 9");
        bounds(HEAD + TRAIN + ";shoal 0 ", 0, 3, " 4 3 9");
        bounds(HEAD + TRAIN + ";shoal 0 0 ", 0, 4, " 3 9");
        bounds(HEAD + TRAIN + ";shoal 2 0 ", 2, 4, " 3 9");
        bounds(HEAD + TRAIN + ";shoal 0 0 4 ", 0, 3, " 9");
        bounds(HEAD + TRAIN + ";shoal 0 1 4 ", 1, 3, " 9");
        bounds(HEAD + TRAIN + ";shoal 4 3 4 ", 3, 3, " 9");
        bounds(HEAD + TRAIN + ";gauge ", 0, 4, " 0");
        bounds(HEAD + TRAIN + ";gauge 0 ", 0, 3, "");
    }

    private void counts() {
        b.sentence("section 6", "There are at most 4 trains, 6 cut lines, 3 shoals and 4 gauges.");
        String cuts = ";cut 0 1 2".repeat(3) + ";cut 1 1 2".repeat(3);
        RippleTank t = b.good(HEAD + TRAIN.repeat(4) + cuts + ";shoal 0 0 0 0 1".repeat(3)
                + ";gauge 0 0".repeat(4), 4);
        b.same("gauges", t.gauges(), 4);
        b.good(TWO + ";cut 1 5 5".repeat(6), 2);
        b.sentence("section 6", "4: a fifth train, a seventh cut line, a fourth shoal or a fifth gauge "
                + "(at the first word of the line).");
        b.faulty(HEAD + TRAIN.repeat(5), 4, "train");
        b.faulty(HEAD + TRAIN.repeat(2) + cuts + TRAIN.repeat(3), 4, "train");
        b.faulty(HEAD + TRAIN.repeat(4) + ";train", 4, "train");
        b.faulty(HEAD + TRAIN.repeat(4) + ";train x", 4, "train");
        b.faulty(TWO + cuts + ";cut 0 1 2", 4, "cut");
        b.faulty(TWO + cuts + ";cut 9", 4, "cut");
        b.faulty(TWO + ";cut 1 5 5".repeat(7), 4, "cut");
        b.faulty(TWO + ";shoal 0 0 0 0 1".repeat(4), 4, "shoal");
        b.faulty(TWO + ";shoal 0 0 0 0 1".repeat(3) + ";shoal", 4, "shoal");
        b.faulty(TWO + ";gauge 0 0".repeat(5), 4, "gauge");
        b.faulty(TWO + ";gauge 0 0".repeat(4) + ";gauge -", 4, "gauge");
        b.faulty(HEAD + TRAIN.repeat(4) + ";trains", 1, "trains");
        b.faulty(HEAD + TRAIN.repeat(4) + " train", 1, "train");
    }

    // ---- section 6: errors

    private void firstError() {
        b.sentence("section 6", "Parsing stops at the first token, from the left, at which an error is "
                + "found;");
        b.faulty("tank width 17 height 11 fade x", 2, "17");
        b.faulty("tank width 16 height 11 fade x", 2, "11");
        b.faulty("tank width 16 height 10 fade x$", 1, "x");
        b.faulty(HEAD + TRAIN.repeat(5) + "$", 4, "train");
        b.faulty(HEAD + ";off 0" + TRAIN, 2, HEAD.length() + 5);
        b.faulty(HEAD + TRAIN + ";off 0;off 0;off 1", 3, HEAD.length() + TRAIN.length() + 11);
        b.faulty(HEAD + TRAIN + ";off 0;off 1;off 0", 2, HEAD.length() + TRAIN.length() + 11);
        b.faulty(HEAD + " wall 9;$", 2, "9");
        b.sentence("section 6", "if several errors apply to that token, the smallest code is reported.");
        b.faulty("tank width 99999", 1, "99999");
        b.faulty(HEAD + TRAIN + ";off 10000", 1, "10000");
        b.faulty(HEAD + TRAIN + ";drift 0 -10000", 1, "10000");
        b.faultyAtEnd(HEAD + ";", 1);
        b.faultyAtEnd(HEAD + ";off", 1);
        b.faultyAtEnd(HEAD + " wall", 1);
        b.faultyAtEnd("tank", 1);
        b.faultyAtEnd("", 1);
    }

    private void positions() {
        b.sentence("section 6", "The position of an error is the index of the token's first byte (of "
                + "the digits, for a signed number out of its bounds); at the end of the text it is "
                + "the number of bytes.");
        b.faulty("   tank   width   17", 2, 18);
        b.faulty("   tank   width   abcdefghijk", 1, 18);
        b.faulty("   tank   width   12345", 1, 18);
        b.faulty("   tank   width   $", 1, 18);
        String text = HEAD + TRAIN + ";drift 0 ";
        b.faulty(text + "-   100 1", 2, text.length() + 4);
        b.faulty(text + "-100 1", 2, text.length() + 1);
        b.faulty(text + "0100 1", 2, text.length());
        b.faulty(text + "-99 -  100", 2, text.length() + 7);
        b.faulty(text + "- x", 1, text.length() + 2);
        b.faulty(text + "-", 1, text.length() + 1);
        b.faulty(text + "-   ", 1, text.length() + 4);
        b.faulty("   ", 1, 3);
        b.faulty(HEAD + "   ", 5, HEAD.length() + 3);
        RippleTank t = new RippleTank();
        Bench.append(t, HEAD + TRAIN);
        b.refused("load of a part", Bench.ARGUMENT, () -> t.load(HEAD.length() + 1));
        b.same("the end of the part", t.errorPosition(), HEAD.length() + 1);
    }

    private void wrongTokens() {
        b.sentence("section 6", "1: a byte that starts no token, a word of 9 or more letters, a number "
                + "of 5 or more digits, a token that the grammar does not allow here");
        for (int sign = 0; sign < 256; sign++) {
            boolean starts = sign >= 'a' && sign <= 'z' || sign >= '0' && sign <= '9'
                    || sign == ' ' || sign == ';' || sign == '-';
            String text = HEAD + TRAIN + ";" + (char) sign;
            int end = text.length() - (sign == ' ' ? 0 : 1);
            b.faulty(text, 1, end);
            b.same("a byte that starts a token " + sign,
                    !starts || "abcdefghijklmnopqrstuvwxyz0123456789 ;-".indexOf(sign) >= 0, true);
        }
        String[] whole = {"tank", "width", "height", "fade", "wall", "train", "burst", "rising",
            "drift", "slit", "off", "mirror", "left", "right", "top", "bottom", "cut", "shape",
            "square", "saw", "shoal", "gauge"};
        String[] lines = {"train", "drift", "slit", "off", "mirror", "cut", "shape", "shoal", "gauge"};
        for (String word : whole) {
            boolean line = java.util.Arrays.asList(lines).contains(word);
            int at = HEAD.length() + TRAIN.length() + 1;
            b.faulty(HEAD + TRAIN + ";" + word, 1, line ? at + word.length() : at);
            boolean more = word.equals("burst") || word.equals("rising");
            b.faulty(HEAD + TRAIN + " " + word, 1, more ? at + word.length() : at);
            boolean side = "left right top bottom".contains(word);
            at += 7;
            b.faulty(HEAD + TRAIN + ";mirror " + word, 1, side ? at + word.length() : at);
            boolean shape = word.equals("square") || word.equals("saw");
            if (!shape) {
                b.faulty(HEAD + TRAIN + ";shape 0 " + word, 1, at + 1);
            }
            b.faulty(word, 1, word.equals("tank") ? 4 : 0);
        }
        b.faulty(HEAD + TRAIN + " 1", 1, HEAD.length() + TRAIN.length() + 1);
        b.faulty(HEAD + TRAIN + " -", 1, HEAD.length() + TRAIN.length() + 1);
        b.faulty(WALL + " 1", 1, WALL.length() + 1);
        b.faulty(WALL + " wall 2", 1, WALL.length() + 1);
        b.faulty(HEAD + ";;", 1, HEAD.length() + 1);
        b.faulty(";", 1, 0);
    }

    private void incompleteLines() {
        b.sentence("section 6", "or the end of the text where a line is not complete.");
        String[] wholes = {"tank width 5 height 4 fade 0 wall 2", "train 0 0 1 50 2 0 0 9 burst 1 1",
            "train 0 0 1 50 2 0 0 9 rising 1", "drift 0 -1 -1", "slit 0 3", "off 0", "mirror left 5",
            "cut 0 1 2", "shape 0 saw", "shoal 0 0 1 1 5", "gauge 0 0"};
        for (String whole : wholes) {
            boolean head = whole.startsWith("tank");
            String before = head ? "" : WALL + TRAIN + ";";
            String[] words = whole.replace("-", "- ").split(" ");
            StringBuilder line = new StringBuilder(before);
            for (int count = 0; count < words.length; count++) {
                boolean enough = head && count == 7 || words[0].equals("train") && count == 9;
                if (enough && !head) {
                    b.good(line.toString(), 2);
                } else {
                    b.faultyAtEnd(line.toString(), enough ? 5 : 1);
                }
                line.append(count == 0 ? "" : " ").append(words[count]);
            }
            if (!head) {
                b.same("complete", Bench.loaded(line.toString()).parseError(), 0);
            }
        }
    }

    private void toldTwice() {
        b.sentence("section 6", "2: a number out of its bounds (also a SOURCE that does not exist).");
        b.faulty(TWO + ";off 2", 2, "2");
        b.faulty(TWO + ";off 9999", 2, "9999");
        b.good(TWO + ";off 1", 2);
        b.sentence("section 6", "3: a SOURCE that an earlier line with the same first word, drift, off "
                + "or shape, has told;");
        String[] lines = {"drift # 1 1", "off #", "shape # saw"};
        for (String line : lines) {
            String first = ";" + line.replace('#', '0');
            String second = ";" + line.replace('#', '1');
            b.good(TWO + first + second, 2);
            b.faulty(TWO + first + first, 3, TWO.length() + first.length() + line.indexOf('#') + 1);
            b.faulty(TWO + first + second + second, 3,
                    TWO.length() + first.length() + second.length() + line.indexOf('#') + 1);
            b.faulty(TWO + first + second + first, 3,
                    TWO.length() + first.length() + second.length() + line.indexOf('#') + 1);
        }
        b.good(TWO + ";drift 0 1 1;off 0;shape 0 square;cut 0 1 1;cut 0 1 1;gauge 0 0;gauge 0 0", 2);
        b.good(WALL + TRAIN + ";slit 0 0;slit 0 0;shoal 0 0 0 0 1;shoal 0 0 0 0 1", 1);
        b.sentence("section 6", "the word of a mirror that an earlier line has told.");
        String sides = ";mirror left 1;mirror right 2;mirror top 3;mirror bottom 4";
        b.good(TWO + sides, 2);
        for (String side : "left right top bottom".split(" ")) {
            b.faulty(TWO + ";mirror " + side + " 1;mirror " + side + " 1", 3, side);
            b.faulty(TWO + ";mirror " + side + " 100;mirror " + side + " 999", 3, side);
            b.faulty(TWO + sides + ";mirror " + side, 3, side);
        }
    }

    private void noTrain() {
        b.sentence("section 6", "5: at the end of the text: no train.");
        b.faultyAtEnd(HEAD, 5);
        b.faultyAtEnd(WALL, 5);
        b.faultyAtEnd(WALL + ";slit 0 0;mirror left 5;shoal 0 0 0 0 5;gauge 0 0", 5);
        b.good(HEAD + TRAIN, 1);
        b.good(HEAD + ";gauge 0 0" + TRAIN, 1);
    }
}
