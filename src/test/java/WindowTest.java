/** Promise 16 scaled: a method for each sentence on SIZES ON A WINDOW that names an edge. */
public final class WindowTest {
    private static final Due due = new Due();
    private static final int NONE = BlorbRows.NONE;
    private static final int BAD = BlorbRows.BAD;
    private static final int PICT = Octets.kind("Pict");
    /** STANDARD of 1, no LEAST, no GREATEST. */
    private static final long[] PLAIN = {1, 1, 0, 0, 0, 0};

    public static void main(String[] args) {
        noSuchNumber();
        noSuchWindow();
        noSuchAxis();
        badAheadOfNone();
        noSuchEntry();
        noMeasure();
        wideAndHighAboveZero();
        otherPictures();
        withoutReso();
        resosLength();
        firstReso();
        withoutItsNumberThere();
        firstOfItsNumber();
        fourThatAreNotUsed();
        lesserRoom();
        roomTimesStandard();
        roundedDown();
        belowLeast();
        leastOfNothing();
        aboveGreatest();
        greatestOfNothing();
        leastAheadOfGreatest();
        sidesOfZero();
        belowsOfZero();
        abovesOfZero();
        aboveTheBound();
        atTheBound();
        askedOnlyOfItsNumber();
        exactRatios();
        amongSixtyAndForty();
        due.end("WindowTest");
    }

    private static BlorbRows picture(long wide, long high) {
        BlorbRows x = new BlorbRows();
        Calls.add(x, "Rect", new Octets().u4(wide, high));
        x.mean(PICT, 7, 0);
        return x;
    }

    private static Octets reso(long px, long py) {
        return new Octets().u4(px, py).u4(1, 2, 3, 4);
    }

    /** A picture 7 of wide by high, with one row in "Reso". */
    private static BlorbRows with(long wide, long high, long px, long py, long... ratios) {
        BlorbRows x = picture(wide, high);
        Calls.add(x, "Reso", reso(px, py).u4(7).u4(ratios));
        return x;
    }

    private static void scaled(String name, BlorbRows x, int wx, int wy, long wide, long high) {
        due.is(name + ": WIDE", x.scaled(7, wx, wy, 0), wide);
        due.is(name + ": HIGH", x.scaled(7, wx, wy, 1), high);
    }

    private static void none(String name, BlorbRows x) {
        scaled(name, x, 100, 100, NONE, NONE);
        scaled(name + ", a small window", x, 1, 1, NONE, NONE);
    }

    private static void noSuchNumber() {
        due.promise(16, "BAD: numbers: NUMBER (a u4)");
        BlorbRows x = picture(5, 6);
        long[] wrong = {-1, 4294967296L, 4294967303L, Long.MIN_VALUE, Long.MIN_VALUE + 7, Long.MAX_VALUE};
        for (long number : wrong) {
            due.is("scaled(" + number + ", 1, 1, 0)", x.scaled(number, 1, 1, 0), BAD);
        }
        x.mean(PICT, 0, 0);
        x.mean(PICT, 4294967295L, 0);
        due.is("the least", x.scaled(0, 1, 1, 0), 5);
        due.is("the greatest", x.scaled(4294967295L, 1, 1, 0), 5);
    }

    private static void noSuchWindow() {
        due.promise(16, "WX, WY 1 .. 65535");
        BlorbRows x = picture(5, 6);
        int[] wrong = {0, -1, 65536, 65537, Integer.MIN_VALUE, Integer.MAX_VALUE};
        for (int side : wrong) {
            due.is("wx " + side, x.scaled(7, side, 1, 0), BAD);
            due.is("wy " + side, x.scaled(7, 1, side, 0), BAD);
        }
        scaled("the least", x, 1, 1, 5, 6);
        scaled("the greatest", x, 65535, 65535, 5, 6);
    }

    private static void noSuchAxis() {
        due.promise(16, "BAD: numbers: WIDE (axis 0) or HIGH (1)");
        BlorbRows x = picture(5, 6);
        int[] wrong = {-1, 2, Integer.MIN_VALUE, Integer.MAX_VALUE};
        for (int axis : wrong) {
            due.is("axis " + axis, x.scaled(7, 1, 1, axis), BAD);
        }
        due.is("axis 0", x.scaled(7, 1, 1, 0), 5);
        due.is("axis 1", x.scaled(7, 1, 1, 1), 6);
    }

    private static void badAheadOfNone() {
        due.promise(16, "REFUSALS are answers, the first that fits");
        BlorbRows x = picture(0, 0);
        due.is("wx, no entry", x.scaled(8, 0, 1, 0), BAD);
        due.is("wy, no entry", x.scaled(8, 1, 65536, 0), BAD);
        due.is("axis, no entry", x.scaled(8, 1, 1, 2), BAD);
        due.is("wx, no size", x.scaled(7, 0, 1, 0), BAD);
        due.is("axis, no size", x.scaled(7, 1, 1, 2), BAD);
        due.is("number, an empty house", new BlorbRows().scaled(-1, 1, 1, 0), BAD);
    }

    private static void noSuchEntry() {
        due.promise(16, "NONE: no such ENTRY (the ENTRY with Pict)");
        none("an empty house", new BlorbRows());
        due.is("another number", picture(5, 6).scaled(8, 1, 1, 0), NONE);
        String[] uses = {"Snd ", "Data", "Exec"};
        for (String use : uses) {
            BlorbRows x = new BlorbRows();
            Calls.add(x, "Rect", new Octets().u4(5, 6));
            x.mean(Octets.kind(use), 7, 0);
            none(use, x);
        }
        BlorbRows y = picture(5, 6);
        y.mean(Octets.kind("Data"), 7, 0);
        y.drop(PICT, 7);
        none("it went", y);
    }

    private static void noMeasure() {
        due.promise(16, "NONE: no measure");
        BlorbRows x = new BlorbRows();
        Calls.add(x, "TEXT", new Octets().u4(5, 6));
        x.mean(PICT, 7, 0);
        none("another KIND", x);
        BlorbRows y = picture(5, 6);
        Calls.change(y, 0, Octets.of(1, 2, 3, 4, 5, 6, 7));
        none("seven octets", y);
        Calls.add(y, "Reso", reso(1, 1).u4(7).u4(PLAIN));
        none("seven octets, in Reso", y);
    }

    private static void wideAndHighAboveZero() {
        due.promise(16, "with WIDE and HIGH above 0");
        none("WIDE of 0", picture(0, 3));
        none("HIGH of 0", picture(3, 0));
        none("both of 0", picture(0, 0));
        none("WIDE of 0, in Reso", with(0, 3, 1, 1, PLAIN));
        none("HIGH of 0, in Reso", with(3, 0, 1, 1, PLAIN));
        scaled("both of 1", picture(1, 1), 1, 1, 1, 1);
    }

    private static void otherPictures() {
        due.promise(16, "its CHUNK by the ENTRY with Pict");
        BlorbRows x = new BlorbRows();
        Calls.add(x, "PNG ", Octets.of(137, 80, 78, 71, 13, 10, 26, 10).u4(13).put("IHDR").u4(64, 32));
        Calls.add(x, "JPEG", Octets.of(255, 216, 255, 192).u2(7).u1(8).u2(300, 600));
        x.mean(PICT, 7, 0);
        scaled("PNG", x, 1, 1, 64, 32);
        x.drop(PICT, 7);
        x.mean(PICT, 7, 0);
        scaled("JPEG", x, 1, 1, 600, 300);
    }

    private static void withoutReso() {
        due.promise(16, "without \"Reso\": 1");
        scaled("small", picture(3, 4), 1, 1, 3, 4);
        scaled("the greatest", picture(4294967295L, 4294967294L), 65535, 65535, 4294967295L, 4294967294L);
        BlorbRows x = picture(3, 4);
        Calls.add(x, "reso", reso(1, 1).u4(7).u4(2, 1, 0, 0, 0, 0));
        scaled("another KIND", x, 1, 1, 3, 4);
    }

    private static void resosLength() {
        due.promise(16, "whose DATA has 24 octets and any number of 28 more (else it is as if there were none)");
        Octets row = new Octets().u4(7).u4(PLAIN);
        for (int more = 0; more <= 28; more++) {
            BlorbRows x = picture(10, 6);
            Calls.add(x, "Reso", reso(2, 2).put(row).zeros(more));
            boolean counts = more % 28 == 0;
            scaled("a row and " + more, x, 1, 1, counts ? 5 : 10, counts ? 3 : 6);
        }
        for (int n = 0; n <= 24; n++) {
            BlorbRows x = picture(10, 6);
            Calls.add(x, "Reso", new Octets().zeros(n));
            scaled("of " + n, x, 1, 1, 10, 6);
        }
        BlorbRows y = picture(10, 6);
        Octets many = reso(2, 2);
        for (int i = 0; i < 20; i++) {
            many.u4(100 + i).u4(9, 1, 0, 0, 0, 0);
        }
        Calls.add(y, "Reso", many.put(row));
        scaled("the last of 21 rows", y, 1, 1, 5, 3);
    }

    private static void firstReso() {
        due.promise(16, "of the first \"Reso\"");
        Octets row = new Octets().u4(7).u4(PLAIN);
        BlorbRows x = picture(10, 6);
        Calls.add(x, "Reso", reso(2, 2).put(row));
        Calls.add(x, "Reso", reso(1, 1).put(row));
        scaled("two", x, 1, 1, 5, 3);
        Calls.change(x, 1, reso(2, 2));
        scaled("the first has not its NUMBER", x, 1, 1, 10, 6);
        Calls.change(x, 1, Octets.of(1));
        scaled("the first is as if there were none", x, 1, 1, 10, 6);
        Calls.change(x, 2, reso(2, 2).put(row));
        x.remove(1);
        scaled("the first went", x, 1, 1, 5, 3);
    }

    private static void withoutItsNumberThere() {
        due.promise(16, "or without its NUMBER there: 1");
        BlorbRows x = picture(10, 6);
        Calls.add(x, "Reso", reso(2, 2));
        scaled("no rows", x, 1, 1, 10, 6);
        long[] others = {6, 8, 263, 65543, 0x80000007L};
        for (long number : others) {
            Calls.change(x, 1, reso(2, 2).u4(number).u4(PLAIN));
            scaled("a row of " + number, x, 1, 1, 10, 6);
        }
        Calls.change(x, 1, reso(7, 7).u4(8).u4(7, 7, 7, 7, 7, 7));
        scaled("7 in other places", x, 1, 1, 10, 6);
    }

    private static void firstOfItsNumber() {
        due.promise(16, "the first one counts");
        BlorbRows x = picture(10, 6);
        Calls.add(x, "Reso", reso(2, 2).u4(8).u4(9, 1, 0, 0, 0, 0).u4(7).u4(PLAIN).u4(7).u4(3, 1, 0, 0, 0, 0));
        scaled("two of 7", x, 1, 1, 5, 3);
        x.mean(PICT, 8, 0);
        due.is("8", x.scaled(8, 1, 1, 0), 45);
        Calls.change(x, 1, reso(2, 2).u4(7).u4(1, 0, 0, 0, 0, 0).u4(7).u4(PLAIN));
        none("the first has no size", x);
    }

    private static void fourThatAreNotUsed() {
        due.promise(16, "PX, PY, four u4 that are not used");
        BlorbRows x = picture(10, 6);
        Calls.add(x, "Reso", new Octets().u4(2, 2).u4(0, 0, 4294967295L, 65536).u4(7).u4(PLAIN));
        scaled("any numbers", x, 1, 1, 5, 3);
    }

    private static void lesserRoom() {
        due.promise(16, "ROOM is the lesser of WX / PX and WY / PY");
        BlorbRows x = with(300, 100, 600, 400, PLAIN);
        scaled("both are 1", x, 600, 400, 300, 100);
        scaled("WX / PX is less", x, 300, 400, 150, 50);
        scaled("WY / PY is less", x, 600, 200, 150, 50);
        scaled("WX / PX is less, though WX is more", x, 1200, 1000, 600, 200);
        scaled("WY / PY is less, and above 1", x, 2400, 800, 600, 200);
        scaled("the least window", x, 1, 1, 0, 0);
        scaled("the greatest window", x, 65535, 65535, 32767, 10922);
    }

    private static void roomTimesStandard() {
        due.promise(16, "the RATIO is ROOM times STANDARD");
        BlorbRows x = with(301, 100, 600, 400, 2, 3, 0, 0, 0, 0);
        scaled("ROOM of 1", x, 600, 400, 200, 66);
        scaled("ROOM of a half", x, 300, 400, 100, 33);
        scaled("ROOM of 3", x, 1800, 1200, 602, 200);
    }

    private static void roundedDown() {
        due.promise(16, "WIDE and HIGH times a RATIO, each rounded down");
        scaled("a half of odd ones", with(301, 99, 2, 2, PLAIN), 1, 1, 150, 49);
        scaled("nearly 1", with(1, 65535, 65535, 65535, PLAIN), 65534, 65534, 0, 65534);
        // A RATIO that was rounded itself would lose one.
        scaled("a third of three", with(3, 9, 3, 3, PLAIN), 1, 1, 1, 3);
        scaled("49 times 1 / 49", with(49, 98, 49, 49, PLAIN), 1, 1, 1, 2);
    }

    private static void belowLeast() {
        due.promise(16, "if LEAST is not 0 / 0, and the RATIO is below it, LEAST");
        BlorbRows x = with(1000, 10, 100, 100, 1, 1, 1, 2, 0, 0);
        scaled("below", x, 49, 100, 500, 5);
        scaled("far below", x, 1, 1, 500, 5);
        scaled("at it", x, 50, 100, 500, 5);
        scaled("above", x, 51, 100, 510, 5);
        scaled("LEAST alone, not times ROOM", with(7, 7, 3, 3, 5, 1, 10, 3, 0, 0), 1, 1, 23, 23);
        scaled("LEAST of 0 / 9", with(1000, 10, 100, 100, 1, 1, 0, 9, 0, 0), 1, 1, 10, 0);
        scaled("a RATIO of 0", with(1000, 10, 100, 100, 0, 1, 1, 2, 0, 0), 1, 1, 500, 5);
    }

    private static void leastOfNothing() {
        due.promise(16, "if LEAST is not 0 / 0");
        BlorbRows x = with(1000, 10, 100, 100, 1, 1, 0, 0, 3, 2);
        scaled("a small window", x, 1, 1, 10, 0);
        scaled("a RATIO of 0", with(1000, 10, 100, 100, 0, 1, 0, 0, 3, 2), 1, 1, 0, 0);
    }

    private static void aboveGreatest() {
        due.promise(16, "else if GREATEST is not 0 / 0, and it is above that, GREATEST");
        BlorbRows x = with(1000, 10, 100, 100, 1, 1, 0, 0, 3, 2);
        scaled("below", x, 149, 200, 1490, 14);
        scaled("at it", x, 150, 200, 1500, 15);
        scaled("above", x, 151, 200, 1500, 15);
        scaled("far above", x, 65535, 65535, 1500, 15);
        scaled("GREATEST of 0 / 9", with(1000, 10, 100, 100, 1, 1, 0, 0, 0, 9), 100, 100, 0, 0);
    }

    private static void greatestOfNothing() {
        due.promise(16, "if GREATEST is not 0 / 0");
        scaled("a large window", with(1000, 10, 100, 100, 1, 1, 1, 2, 0, 0), 1000, 1000, 10000, 100);
        scaled("the greatest window", with(1000, 10, 1, 1, 1, 1, 0, 0, 0, 0), 65535, 65535, 65535000, 655350);
    }

    private static void leastAheadOfGreatest() {
        due.promise(16, "LEAST; else if GREATEST");
        BlorbRows x = with(1000, 10, 100, 100, 1, 1, 2, 1, 1, 2);
        scaled("below LEAST, above GREATEST", x, 100, 100, 2000, 20);
        scaled("at LEAST, above GREATEST", x, 200, 200, 500, 5);
        scaled("above both", x, 300, 300, 500, 5);
        scaled("below both", x, 10, 10, 2000, 20);
    }

    private static void sidesOfZero() {
        due.promise(16, "There is no size when PX, PY is 0");
        none("PX", with(5, 6, 0, 1, PLAIN));
        none("PY", with(5, 6, 1, 0, PLAIN));
        none("both", with(5, 6, 0, 0, PLAIN));
        scaled("of 1", with(5, 6, 1, 1, PLAIN), 1, 1, 5, 6);
    }

    private static void belowsOfZero() {
        due.promise(16, "There is no size when a below is 0 (but of 0 / 0 as LEAST, GREATEST)");
        none("STANDARD of 0 / 0", with(5, 6, 1, 1, 0, 0, 0, 0, 0, 0));
        none("STANDARD of 1 / 0", with(5, 6, 1, 1, 1, 0, 0, 0, 0, 0));
        none("STANDARD of 1 / 0, though LEAST counts", with(5, 6, 1, 1, 1, 0, 1, 1, 1, 1));
        none("LEAST of 1 / 0", with(5, 6, 1, 1, 1, 1, 1, 0, 0, 0));
        none("LEAST of 1 / 0, with GREATEST", with(5, 6, 1, 1, 1, 1, 1, 0, 1, 2));
        none("GREATEST of 1 / 0", with(5, 6, 1, 1, 1, 1, 0, 0, 1, 0));
        none("GREATEST of 1 / 0, though LEAST counts", with(5, 6, 1, 1, 1, 1000, 1000, 1, 1, 0));
        none("GREATEST of 65535 / 0", with(5, 6, 1, 1, 1, 1, 0, 0, 65535, 0));
        scaled("0 / 0 as both", with(5, 6, 1, 1, PLAIN), 1, 1, 5, 6);
    }

    private static void abovesOfZero() {
        due.promise(16, "There is no size when a below is 0");
        scaled("STANDARD of 0 / 1", with(5, 6, 1, 1, 0, 1, 0, 0, 0, 0), 9, 9, 0, 0);
        scaled("LEAST of 0 / 1", with(5, 6, 1, 1, 1, 1, 0, 1, 0, 0), 9, 9, 45, 54);
        scaled("GREATEST of 0 / 1", with(5, 6, 1, 1, 1, 1, 0, 0, 0, 1), 9, 9, 0, 0);
    }

    private static void aboveTheBound() {
        due.promise(16, "or one of PX, PY, WIDE, HIGH, these six numbers of its ratios is above 65535");
        long[] above = {65536, 65537, 0x80000001L, 4294967295L};
        for (long number : above) {
            none("PX " + number, with(5, 6, number, 1, PLAIN));
            none("PY " + number, with(5, 6, 1, number, PLAIN));
            none("WIDE " + number, with(number, 6, 1, 1, PLAIN));
            none("HIGH " + number, with(5, number, 1, 1, PLAIN));
            for (int i = 0; i < 6; i++) {
                long[] ratios = {1, 1, 1, 1, 1, 1};
                ratios[i] = number;
                none("ratio number " + i + " " + number, with(5, 6, 1, 1, ratios));
            }
        }
        none("LEAST of 65536 / 0", with(5, 6, 1, 1, 1, 1, 65536, 0, 0, 0));
        none("LEAST of 0 / 65536", with(5, 6, 1, 1, 1, 1, 0, 65536, 0, 0));
    }

    private static void atTheBound() {
        due.promise(16, "above 65535");
        long[] ones = {1, 1, 1, 1, 1, 1};
        scaled("PX", with(65535, 65535, 65535, 1, PLAIN), 1, 1, 1, 1);
        scaled("PY", with(65535, 65535, 1, 65535, PLAIN), 1, 1, 1, 1);
        scaled("WIDE", with(65535, 6, 1, 1, ones), 1, 1, 65535, 6);
        scaled("HIGH", with(5, 65535, 1, 1, ones), 1, 1, 5, 65535);
        scaled("STANDARD above", with(5, 6, 1, 1, 65535, 1, 0, 0, 0, 0), 1, 1, 327675, 393210);
        scaled("STANDARD below", with(65535, 6, 1, 1, 1, 65535, 0, 0, 0, 0), 1, 1, 1, 0);
        scaled("LEAST above", with(5, 6, 1, 1, 1, 1, 65535, 1, 0, 0), 1, 1, 327675, 393210);
        scaled("LEAST below", with(5, 6, 1, 1, 1, 1, 1, 65535, 0, 0), 1, 1, 5, 6);
        scaled("GREATEST above", with(5, 6, 1, 1, 1, 1, 0, 0, 65535, 1), 1, 1, 5, 6);
        scaled("GREATEST below", with(65535, 6, 1, 1, 1, 1, 0, 0, 1, 65535), 1, 1, 1, 0);
        long[] all = {65535, 65535, 65535, 65535, 65535, 65535};
        scaled("all", with(65535, 65535, 65535, 65535, all), 65535, 65535, 65535, 65535);
    }

    private static void askedOnlyOfItsNumber() {
        due.promise(16, "asked only when the NUMBER is in \"Reso\"");
        scaled("without Reso", picture(65536, 70000), 1, 1, 65536, 70000);
        BlorbRows x = picture(70000, 4294967295L);
        Calls.add(x, "Reso", reso(65536, 99999).u4(8).u4(0, 0, 1, 0, 65536, 0));
        scaled("another NUMBER's row", x, 1, 1, 70000, 4294967295L);
        Calls.change(x, 1, reso(0, 0));
        scaled("no rows", x, 1, 1, 70000, 4294967295L);
        BlorbRows y = with(5, 6, 1, 1, PLAIN);
        Calls.change(y, 1, reso(1, 1).u4(7).u4(PLAIN).u4(8).u4(1, 0, 1, 0, 65536, 1));
        scaled("a wrong row of another NUMBER", y, 1, 1, 5, 6);
    }

    private static void exactRatios() {
        due.promise(16, "sizes on windows by exact ratios");
        scaled("the greatest of all", with(65535, 1, 1, 1, 65535, 1, 0, 0, 0, 0), 65535, 65535, 281462092005375L, 4294836225L);
        scaled("the least of all", with(65535, 1, 65535, 65535, 1, 65535, 0, 0, 0, 0), 1, 1, 0, 0);
        // 65534 / 65535 and 65533 / 65534 are nearly the same number.
        scaled("WX / PX by a hair", with(65535, 65534, 65535, 65534, PLAIN), 65534, 65533, 65533, 65533);
        scaled("WY / PY by a hair", with(65535, 65534, 65534, 65535, PLAIN), 65533, 65534, 65533, 65533);
        scaled("LEAST by a hair", with(65535, 1, 65534, 65534, 1, 1, 65534, 65535, 0, 0), 65533, 65533, 65534, 0);
        scaled("GREATEST by a hair", with(65535, 1, 65535, 65535, 1, 1, 0, 0, 65533, 65534), 65534, 65534, 65533, 0);
    }

    private static void amongSixtyAndForty() {
        due.promise(16, "up to 60 CHUNKS, up to 40 ENTRIES");
        BlorbRows x = Calls.manyChunks(58);
        Calls.add(x, "Rect", new Octets().u4(10, 6));
        for (int i = 0; i < 40; i++) {
            x.mean(PICT, 46 - i, 58);
        }
        Calls.add(x, "TEXT", Octets.of());
        scaled("no Reso among 60", x, 1, 1, 10, 6);
        x.remove(59);
        Calls.add(x, "Reso", reso(2, 2).u4(7).u4(PLAIN));
        scaled("Reso is the 60th", x, 1, 1, 5, 3);
        due.is("no such ENTRY among 40", x.scaled(47, 1, 1, 0), NONE);
    }
}
