/** Promise 16 scaled. */
public final class WindowTest {
    private static final Due due = new Due();
    private static final int NONE = BlorbRows.NONE;
    private static final int BAD = BlorbRows.BAD;
    private static final int PICT = Octets.kind("Pict");
    /** The standard, least, greatest ratio of 1 with no bounds. */
    private static final long[] PLAIN = {1, 1, 0, 0, 0, 0};

    public static void main(String[] args) {
        withoutReso();
        refusals();
        room();
        limits();
        noSize();
        aboveBounds();
        exact();
        formOfReso();
        numbersInReso();
        otherPictures();
        due.end("WindowTest");
    }

    private static BlorbRows picture(long wide, long high) {
        BlorbRows x = new BlorbRows();
        Calls.add(x, "Rect", new Octets().u4(wide, high));
        x.mean(PICT, 7, 0);
        return x;
    }

    private static Octets reso(long px, long py) {
        return new Octets().u4(px, py).u4(1, 2, 3, 4);
    }

    /** A picture 7 of wide by high, with one row in "Reso". */
    private static BlorbRows with(long wide, long high, long px, long py, long... ratios) {
        BlorbRows x = picture(wide, high);
        Calls.add(x, "Reso", reso(px, py).u4(7).u4(ratios));
        return x;
    }

    private static void scaled(String name, BlorbRows x, int wx, int wy, long wide, long high) {
        due.is(name + ": WIDE", x.scaled(7, wx, wy, 0), wide);
        due.is(name + ": HIGH", x.scaled(7, wx, wy, 1), high);
    }

    private static void none(String name, BlorbRows x) {
        scaled(name, x, 100, 100, NONE, NONE);
    }

    private static void withoutReso() {
        scaled("as it is", picture(4294967295L, 3), 1, 1, 4294967295L, 3);
        none("WIDE of 0", picture(0, 3));
        none("HIGH of 0", picture(3, 0));
        due.is("no such number", picture(1, 1).scaled(8, 1, 1, 0), NONE);
        BlorbRows x = new BlorbRows();
        none("no entry", x);
        Calls.add(x, "Rect", new Octets().u4(5, 6));
        x.mean(Octets.kind("Data"), 7, 0);
        none("another use", x);
        Calls.add(x, "Rect", new Octets().u4(5));
        x.mean(PICT, 7, 1);
        none("no measure", x);
        Calls.change(x, 1, new Octets().u4(8, 9));
        scaled("a measure", x, 1, 1, 8, 9);
    }

    private static void refusals() {
        BlorbRows x = picture(5, 6);
        int[] sides = {0, -1, 65536, Integer.MIN_VALUE, Integer.MAX_VALUE};
        for (int side : sides) {
            due.is("wx " + side, x.scaled(7, side, 1, 0), BAD);
            due.is("wy " + side, x.scaled(7, 1, side, 0), BAD);
        }
        int[] axes = {-1, 2, Integer.MIN_VALUE, Integer.MAX_VALUE};
        for (int axis : axes) {
            due.is("axis " + axis, x.scaled(7, 1, 1, axis), BAD);
        }
        long[] numbers = {-1, 4294967296L, 4294967303L, Long.MIN_VALUE, Long.MAX_VALUE};
        for (long number : numbers) {
            due.is("number " + number, x.scaled(number, 1, 1, 0), BAD);
        }
        due.is("BAD ahead of NONE", x.scaled(8, 0, 1, 0), BAD);
        due.is("the greatest sides", x.scaled(7, 65535, 65535, 0), 5);
        x.mean(PICT, 4294967295L, 0);
        due.is("the greatest number", x.scaled(4294967295L, 1, 1, 1), 6);
    }

    private static void room() {
        BlorbRows x = with(301, 100, 600, 400, PLAIN);
        scaled("as the standard", x, 600, 400, 301, 100);
        scaled("half", x, 300, 200, 150, 50);
        scaled("wx is less", x, 300, 400, 150, 50);
        scaled("wy is less", x, 600, 200, 150, 50);
        scaled("twice", x, 1200, 800, 602, 200);
        scaled("wx is less of more", x, 1200, 4000, 602, 200);
        BlorbRows y = with(301, 100, 600, 400, 2, 3, 0, 0, 0, 0);
        scaled("times standard", y, 600, 400, 200, 66);
        scaled("times standard, half", y, 300, 400, 100, 33);
        scaled("standard of 0", with(301, 100, 600, 400, 0, 3, 0, 0, 0, 0), 600, 400, 0, 0);
    }

    private static void limits() {
        BlorbRows x = with(1000, 10, 100, 100, 1, 1, 1, 2, 3, 2);
        scaled("below the least", x, 49, 100, 500, 5);
        scaled("at the least", x, 50, 100, 500, 5);
        scaled("above the least", x, 51, 100, 510, 5);
        scaled("below the greatest", x, 149, 200, 1490, 14);
        scaled("at the greatest", x, 150, 200, 1500, 15);
        scaled("above the greatest", x, 151, 200, 1500, 15);
        BlorbRows onlyLeast = with(1000, 10, 100, 100, 1, 1, 1, 2, 0, 0);
        scaled("only a least", onlyLeast, 1, 1, 500, 5);
        scaled("no greatest", onlyLeast, 1000, 1000, 10000, 100);
        BlorbRows onlyGreatest = with(1000, 10, 100, 100, 1, 1, 0, 0, 3, 2);
        scaled("no least", onlyGreatest, 1, 1, 10, 0);
        scaled("only a greatest", onlyGreatest, 1000, 1000, 1500, 15);
        BlorbRows crossed = with(1000, 10, 100, 100, 1, 1, 2, 1, 1, 2);
        scaled("LEAST ahead of GREATEST", crossed, 100, 100, 2000, 20);
        scaled("GREATEST where LEAST is not met", crossed, 300, 300, 500, 5);
        BlorbRows zeros = with(1000, 10, 100, 100, 1, 1, 0, 9, 0, 9);
        scaled("a greatest of 0 / 9", zeros, 100, 100, 0, 0);
        scaled("the least is a ratio of its own", with(7, 7, 3, 3, 5, 1, 10, 3, 0, 0), 1, 1, 23, 23);
    }

    private static void noSize() {
        none("PX of 0", with(5, 6, 0, 1, PLAIN));
        none("PY of 0", with(5, 6, 1, 0, PLAIN));
        none("standard of 0 / 0", with(5, 6, 1, 1, 0, 0, 0, 0, 0, 0));
        none("standard of 1 / 0", with(5, 6, 1, 1, 1, 0, 0, 0, 0, 0));
        none("least of 1 / 0", with(5, 6, 1, 1, 1, 1, 1, 0, 0, 0));
        none("greatest of 1 / 0", with(5, 6, 1, 1, 1, 1, 0, 0, 1, 0));
        none("greatest of 1 / 0, though least counts", with(5, 6, 1, 1, 1, 1000, 1, 1, 1, 0));
        none("WIDE of 0", with(0, 6, 1, 1, PLAIN));
        none("HIGH of 0", with(5, 0, 1, 1, PLAIN));
    }

    private static void aboveBounds() {
        scaled("all at the bound", with(65535, 65535, 65535, 65535, 65535, 65535, 65535, 65535, 65535, 65535), 65535, 65535, 65535, 65535);
        none("PX", with(5, 6, 65536, 1, PLAIN));
        none("PY", with(5, 6, 1, 65536, PLAIN));
        none("PX without a sign", with(5, 6, 4294967295L, 1, PLAIN));
        none("WIDE", with(65536, 6, 1, 1, PLAIN));
        none("HIGH", with(5, 65536, 1, 1, PLAIN));
        for (int i = 0; i < 6; i++) {
            long[] ratios = {1, 1, 1, 1, 1, 1};
            ratios[i] = 65536;
            none("ratio number " + i, with(5, 6, 1, 1, ratios));
            ratios[i] = 4294967295L;
            none("ratio number without a sign " + i, with(5, 6, 1, 1, ratios));
            ratios[i] = 65535;
            due.isTrue("ratio number at the bound " + i, with(5, 6, 1, 1, ratios).scaled(7, 1, 1, 0) >= 0);
        }
        none("above of 65536, 0 below", with(5, 6, 1, 1, 1, 1, 65536, 0, 0, 0));
    }

    private static void exact() {
        scaled("the greatest of all", with(65535, 1, 1, 1, 65535, 1, 0, 0, 0, 0), 65535, 65535, 281462092005375L, 4294836225L);
        scaled("the least of all", with(65535, 1, 65535, 65535, 1, 65535, 0, 0, 0, 0), 1, 1, 0, 0);
        // 65534 / 65535 and 65533 / 65534 are the same number in a float.
        scaled("room by a hair", with(65535, 65534, 65535, 65534, PLAIN), 65534, 65533, 65533, 65533);
        scaled("least by a hair", with(65535, 1, 65534, 65534, 1, 1, 65534, 65535, 0, 0), 65533, 65533, 65534, 0);
        scaled("greatest by a hair", with(65535, 1, 65535, 65535, 1, 1, 0, 0, 65533, 65534), 65534, 65534, 65533, 0);
        // A third three times: a rounded RATIO would lose one.
        scaled("a third of three", with(3, 9, 3, 3, PLAIN), 1, 1, 1, 3);
        scaled("49 times 1 / 49", with(49, 98, 49, 49, PLAIN), 1, 1, 1, 2);
    }

    private static void formOfReso() {
        Octets row = new Octets().u4(7).u4(PLAIN);
        for (int more = 1; more < 28; more++) {
            BlorbRows x = picture(65536, 6);
            Calls.add(x, "Reso", reso(2, 2).put(row).zeros(more));
            scaled("as if there were none, " + more, x, 1, 1, 65536, 6);
        }
        BlorbRows x = picture(10, 6);
        Calls.add(x, "Reso", new Octets().zeros(20));
        scaled("20 octets", x, 1, 1, 10, 6);
        Calls.change(x, 1, Octets.of());
        scaled("no octets", x, 1, 1, 10, 6);
        Calls.change(x, 1, reso(0, 0));
        scaled("24 octets, no row", x, 1, 1, 10, 6);
        Calls.add(x, "Reso", reso(2, 2).put(row));
        scaled("only the first Reso", x, 1, 1, 10, 6);
        Calls.change(x, 1, Octets.of(1));
        scaled("only the first Reso, ill formed", x, 1, 1, 10, 6);
        x.remove(1);
        scaled("the next one then", x, 1, 1, 5, 3);
    }

    private static void numbersInReso() {
        BlorbRows x = picture(10, 6);
        Calls.add(x, "Reso", reso(2, 2).u4(8).u4(9, 1, 0, 0, 0, 0).u4(7).u4(PLAIN).u4(7).u4(3, 1, 0, 0, 0, 0));
        scaled("the first one counts", x, 1, 1, 5, 3);
        x.mean(PICT, 8, 0);
        due.is("another number", x.scaled(8, 1, 1, 0), 45);
        x.mean(PICT, 9, 0);
        due.is("a number that it has not", x.scaled(9, 1, 1, 0), 10);
        BlorbRows y = picture(70000, 6);
        Calls.add(y, "Reso", reso(0, 99999).u4(8).u4(0, 0, 0, 0, 0, 0));
        scaled("nothing is asked of others", y, 1, 1, 70000, 6);
    }

    private static void otherPictures() {
        BlorbRows x = new BlorbRows();
        Octets png = Octets.of(137, 80, 78, 71, 13, 10, 26, 10).u4(13).put("IHDR").u4(64, 32);
        Octets jpeg = Octets.of(255, 216, 255, 192).u2(7).u1(8).u2(300, 600);
        Calls.add(x, "PNG ", png);
        Calls.add(x, "JPEG", jpeg);
        x.mean(PICT, 7, 0);
        scaled("PNG", x, 1, 1, 64, 32);
        x.drop(PICT, 7);
        x.mean(PICT, 7, 0);
        scaled("JPEG", x, 1, 1, 600, 300);
    }
}
