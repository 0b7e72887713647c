/** Promises 11 size, 12 sound, 13 front, 14 release, 15 colour. */
public final class MeasureTest {
    private static final Due due = new Due();
    private static final int NONE = BlorbRows.NONE;
    private static final int BAD = BlorbRows.BAD;

    public static void main(String[] args) {
        rect();
        png();
        jpegFrames();
        jpegMarks();
        jpegEnds();
        sizeRefusals();
        sound();
        soundPieces();
        rate();
        soundRefusals();
        front();
        release();
        colour();
        due.end("MeasureTest");
    }

    private static BlorbRows with(String kind, Octets data) {
        BlorbRows x = new BlorbRows();
        Calls.add(x, kind, data);
        return x;
    }

    private static void size(String name, String kind, Octets data, long wide, long high) {
        BlorbRows x = with(kind, data);
        due.is(name + ": WIDE", x.size(0, 0), wide);
        due.is(name + ": HIGH", x.size(0, 1), high);
    }

    private static void none(String name, String kind, Octets data) {
        size(name, kind, data, NONE, NONE);
    }

    private static void rect() {
        size("Rect", "Rect", new Octets().u4(320, 200), 320, 200);
        size("Rect, the greatest", "Rect", new Octets().u4(4294967295L, 0x80000000L), 4294967295L, 0x80000000L);
        size("Rect of 0", "Rect", new Octets().u4(0, 0), 0, 0);
        size("Rect, more octets", "Rect", new Octets().u4(1, 2).u1(9), 1, 2);
        none("Rect of seven", "Rect", new Octets().u4(1).u1(1, 2, 3));
        none("Rect of none", "Rect", Octets.of());
        none("another kind", "TEXT", new Octets().u4(320, 200));
        none("another kind like Rect", "rect", new Octets().u4(320, 200));
    }

    private static Octets pngHead() {
        return Octets.of(137, 80, 78, 71, 13, 10, 26, 10).u4(13);
    }

    private static void png() {
        size("PNG", "PNG ", pngHead().put("IHDR").u4(640, 480), 640, 480);
        size("PNG, the greatest", "PNG ", pngHead().put("IHDR").u4(4294967295L, 4294967294L), 4294967295L, 4294967294L);
        size("PNG, IHDR's length is free", "PNG ",
            Octets.of(137, 80, 78, 71, 13, 10, 26, 10).u4(99).put("IHDR").u4(6, 7).u1(1), 6, 7);
        none("PNG of 23", "PNG ", pngHead().put("IHDR").u4(640).u1(0, 0, 1));
        none("PNG without IHDR", "PNG ", pngHead().put("IHDX").u4(640, 480));
        none("PNG as JPEG", "JPEG", pngHead().put("IHDR").u4(640, 480));
        none("PNG of none", "PNG ", Octets.of());
        for (int i = 0; i < 8; i++) {
            int[] head = {137, 80, 78, 71, 13, 10, 26, 10};
            head[i]++;
            none("PNG, octet " + i, "PNG ", Octets.of(head).u4(13).put("IHDR").u4(640, 480));
        }
    }

    private static Octets jpeg() {
        return Octets.of(255, 216);
    }

    private static Octets frame(int mark) {
        return Octets.of(255, mark).u2(17).u1(8).u2(300, 600).zeros(10);
    }

    private static void jpegFrames() {
        for (int mark = 0; mark < 256; mark++) {
            boolean isFrame = mark >= 192 && mark <= 207 && mark != 196 && mark != 200 && mark != 204;
            BlorbRows x = with("JPEG", jpeg().put(frame(mark)));
            due.is("mark " + mark + " WIDE", x.size(0, 0), isFrame ? 600 : NONE);
            due.is("mark " + mark + " HIGH", x.size(0, 1), isFrame ? 300 : NONE);
        }
        size("s of 7", "JPEG", jpeg().u1(255, 192).u2(7).u1(8).u2(1, 2), 2, 1);
        none("s of 6", "JPEG", jpeg().u1(255, 192).u2(6).u1(8).u2(1, 2).zeros(9));
        size("five are there, no others", "JPEG", jpeg().u1(255, 192).u2(65535).u1(8).u2(65535, 65534), 65534, 65535);
        none("four are there", "JPEG", jpeg().u1(255, 192).u2(7).u1(8).u2(1).u1(0));
        size("measures of 0", "JPEG", jpeg().u1(255, 192).u2(7).u1(8).u2(0, 0), 0, 0);
        size("the first frame counts", "JPEG",
            jpeg().u1(255, 194).u2(7).u1(8).u2(5, 6).put(frame(192)), 6, 5);
    }

    private static void jpegMarks() {
        for (int mark = 0; mark < 256; mark++) {
            boolean alone = mark == 1 || mark >= 208 && mark <= 215;
            boolean none = mark == 0 || mark == 216 || mark == 217;
            boolean isFrame = mark >= 192 && mark <= 207 && mark != 196 && mark != 200 && mark != 204;
            BlorbRows x = with("JPEG", jpeg().u1(255, mark).put(frame(192)));
            // 255 255 255 192 is one MARK; others take 255 192 as their u2, and a frame reads on from there.
            int want = alone || mark == 255 ? 600 : isFrame ? 300 : NONE;
            due.is("mark " + mark + " with nothing more", x.size(0, 0), want);
            boolean skips = !alone && !none && !isFrame && mark != 255;
            BlorbRows y = with("JPEG", jpeg().u1(255, mark).u2(5).u1(9, 9, 9).put(frame(192)));
            due.is("mark " + mark + " with three octets", y.size(0, 1), skips ? 300 : NONE);
        }
        size("s of 2", "JPEG", jpeg().u1(255, 254).u2(2).put(frame(193)), 600, 300);
        none("s of 1", "JPEG", jpeg().u1(255, 254).u2(1).put(frame(193)));
        none("s of 0", "JPEG", jpeg().u1(255, 254).u2(0).put(frame(193)));
        size("255 many times", "JPEG", jpeg().u1(255, 255, 255, 255).put(frame(193)), 600, 300);
        none("no 255 ahead of a mark", "JPEG", jpeg().u1(192).u2(17).u1(8).u2(300, 600).zeros(10));
        none("an octet between", "JPEG", jpeg().u1(255, 254).u2(2).u1(0).put(frame(193)));
        Octets many = jpeg();
        for (int i = 0; i < 100; i++) {
            many.u1(255, 208 + i % 8);
        }
        size("many marks", "JPEG", many.put(frame(207)), 600, 300);
    }

    private static void jpegEnds() {
        byte[] whole = jpeg().u1(255, 255, 224).u2(4).u1(1, 2).u1(255, 192).u2(7).u1(8).u2(3, 4).bytes();
        for (int n = 0; n <= whole.length; n++) {
            Octets data = new Octets();
            for (int i = 0; i < n; i++) {
                data.u1(whole[i]);
            }
            boolean all = n == whole.length;
            size("ends at " + n, "JPEG", data, all ? 4 : NONE, all ? 3 : NONE);
        }
        none("a segment beyond the end", "JPEG", jpeg().u1(255, 224).u2(65535).u1(1, 2, 3));
        none("a segment up to the end", "JPEG", jpeg().u1(255, 224).u2(4).u1(1, 2));
        none("not 255 216", "JPEG", Octets.of(255, 217).put(frame(192)));
        none("not 255 216 either", "JPEG", Octets.of(254, 216).put(frame(192)));
        none("only 255", "JPEG", jpeg().u1(255, 255, 255));
    }

    private static void sizeRefusals() {
        BlorbRows x = with("Rect", new Octets().u4(1, 2));
        int[] wrong = {-1, 2, Integer.MIN_VALUE, Integer.MAX_VALUE};
        for (int w : wrong) {
            due.is("size(0, " + w + ")", x.size(0, w), BAD);
            due.is("size(" + w + ", 0)", x.size(w, 0), BAD);
        }
        due.is("size(1, 0)", x.size(1, 0), BAD);
        Calls.add(x, "TEXT", new Octets().u4(1, 2));
        due.is("BAD ahead of NONE", x.size(1, 2), BAD);
        // A CHUNK's DATA is followed by another one's: measures must not reach into that.
        Calls.change(x, 0, new Octets().u4(7));
        due.is("not into the next one", x.size(0, 1), NONE);
    }

    private static Octets comm() {
        return new Octets().u2(2).u4(44100).u2(16).u2(16398).u4(0xAC440000L, 0);
    }

    private static void tells(String name, Octets data, long channels, long frames, long bits, long rate) {
        BlorbRows x = with("FORM", data);
        due.is(name + ": CHANNELS", x.sound(0, 0), channels);
        due.is(name + ": FRAMES", x.sound(0, 1), frames);
        due.is(name + ": BITS", x.sound(0, 2), bits);
        due.is(name + ": RATE", x.sound(0, 3), rate);
    }

    private static void silent(String name, Octets data) {
        tells(name, data, NONE, NONE, NONE, NONE);
    }

    private static void sound() {
        tells("COMM", Octets.text("AIFF").piece("COMM", comm()), 2, 44100, 16, 44100);
        tells("the greatest", Octets.text("AIFF").piece("COMM", new Octets().u2(65535).u4(4294967295L).u2(65535, 0).u4(0, 0)),
            65535, 4294967295L, 65535, 0);
        silent("AIFC", Octets.text("AIFC").piece("COMM", comm()));
        silent("no COMM", Octets.text("AIFF"));
        silent("empty", Octets.of());
        silent("AIF", Octets.text("AIF"));
        due.is("another kind", with("OGGV", Octets.text("AIFF").piece("COMM", comm())).sound(0, 0), NONE);
    }

    private static void soundPieces() {
        Octets ahead = Octets.text("AIFF").piece("SSND", Octets.of(1, 2, 3));
        tells("behind an odd one", ahead.piece("COMM", comm()), 2, 44100, 16, 44100);
        tells("kinds of any octets", Octets.text("AIFF").piece("\0\1\u00ff\2", Octets.of(5)).piece("RIdx", Octets.of())
            .piece("COMM", comm()), 2, 44100, 16, 44100);
        tells("a COMM of 17 does not count", Octets.text("AIFF").piece("COMM", new Octets().zeros(17))
            .piece("COMM", comm()), 2, 44100, 16, 44100);
        tells("a COMM of 19", Octets.text("AIFF").piece("COMM", comm().u1(1)), 2, 44100, 16, 44100);
        tells("a COMM of 19, its odd octet lacks", Octets.text("AIFF").put("COMM").u4(19).put(comm()).u1(1), 2, 44100, 16, 44100);
        tells("the first counts", Octets.text("AIFF").piece("COMM", new Octets().zeros(18)).piece("COMM", comm()), 0, 0, 0, 0);
        tells("nothing behind it counts", Octets.text("AIFF").piece("COMM", comm()).put("XX"), 2, 44100, 16, 44100);
        silent("COMM of 17 alone", Octets.text("AIFF").piece("COMM", new Octets().zeros(17)));
        silent("COMM beyond the end", Octets.text("AIFF").put("COMM").u4(19).put(comm()));
        silent("COMM of 17 beyond the end", Octets.text("AIFF").put("COMM").u4(17).zeros(16));
        silent("a piece beyond the end", Octets.text("AIFF").put("SSND").u4(27).piece("COMM", comm()));
        silent("a piece far beyond the end", Octets.text("AIFF").put("SSND").u4(0xFFFFFFFFL).piece("COMM", comm()));
        silent("a piece beyond an int", Octets.text("AIFF").put("SSND").u4(0x80000000L).piece("COMM", comm()));
        silent("the odd octet lacks ahead of COMM", Octets.text("AIFF").put("SSND").u4(1).u1(1).piece("COMM", comm()));
        silent("a last odd octet lacks", Octets.text("AIFF").put("SSND").u4(1).u1(1));
        for (int n = 1; n < 8; n++) {
            silent("a head of " + n, Octets.text("AIFF").put("COMM\0\0\0\22".substring(0, n)));
        }
        silent("COMM without DATA", Octets.text("AIFF").put("COMM").u4(18));
    }

    private static long rateOf(int e, long high, long low) {
        Octets data = Octets.text("AIFF").piece("COMM", new Octets().u2(1).u4(1).u2(8).u2(e).u4(high, low));
        return with("FORM", data).sound(0, 3);
    }

    private static void rate() {
        due.is("44100", rateOf(16398, 0xAC440000L, 0), 44100);
        due.is("rounded down", rateOf(16398, 0xAC44FFFFL, 0xFFFFFFFFL), 44100);
        due.is("1", rateOf(16383, 0x80000000L, 0), 1);
        due.is("below 1", rateOf(16382, 0xFFFFFFFFL, 0xFFFFFFFFL), 0);
        due.is("far below 1", rateOf(16318, 0xFFFFFFFFL, 0xFFFFFFFFL), 0);
        due.is("e of 0", rateOf(0, 0xFFFFFFFFL, 0xFFFFFFFFL), 0);
        due.is("the greatest", rateOf(16445, 0xFFFFFFFFL, 0xFFFFFFFFL), Long.MAX_VALUE);
        due.is("one less", rateOf(16444, 0xFFFFFFFFL, 0xFFFFFFFFL), Long.MAX_VALUE >> 1);
        due.is("the lowest octets", rateOf(16445, 0, 0x80000003L), 0x40000001L);
        due.is("e of 16446", rateOf(16446, 1, 1), NONE);
        due.is("e of 16446 and m of 0", rateOf(16446, 0, 0), NONE);
        due.is("e of 65535", rateOf(65535, 1, 1), NONE);
        due.is("e of 32768", rateOf(32768, 1, 1), NONE);
        tells("only RATE is NONE then", Octets.text("AIFF").piece("COMM", new Octets().u2(1).u4(2).u2(3, 16446).u4(1, 1)),
            1, 2, 3, NONE);
    }

    private static void soundRefusals() {
        BlorbRows x = with("FORM", Octets.text("AIFF").piece("COMM", comm()));
        int[] wrong = {-1, 4, Integer.MIN_VALUE, Integer.MAX_VALUE};
        for (int w : wrong) {
            due.is("sound(0, " + w + ")", x.sound(0, w), BAD);
            due.is("sound(" + w + ", 0)", x.sound(w, 0), BAD);
        }
        Calls.add(x, "TEXT", Octets.of());
        due.is("BAD ahead of NONE", x.sound(1, 4), BAD);
        due.is("NONE", x.sound(1, 3), NONE);
    }

    private static void front() {
        BlorbRows x = new BlorbRows();
        due.is("none", x.front(), NONE);
        Calls.add(x, "Fspc", Octets.of(1, 2, 3));
        due.is("of three octets", x.front(), NONE);
        Calls.add(x, "Fspc", Octets.of(1, 2, 3, 4, 5));
        due.is("of five octets", x.front(), NONE);
        Calls.add(x, "fspc", new Octets().u4(1));
        Calls.add(x, "Fspc", new Octets().u4(4294967295L));
        due.is("the first of four", x.front(), 4294967295L);
        Calls.add(x, "Fspc", new Octets().u4(7));
        due.is("not a later one", x.front(), 4294967295L);
        x.remove(3);
        due.is("the next one then", x.front(), 7);
    }

    private static void release() {
        BlorbRows x = new BlorbRows();
        due.is("none", x.release(), NONE);
        Calls.add(x, "RelN", Octets.of(1));
        due.is("of one octet", x.release(), NONE);
        Calls.add(x, "RelN", Octets.of(1, 2, 3));
        due.is("of three octets", x.release(), NONE);
        Calls.add(x, "RelN", new Octets().u2(65535));
        due.is("the first of two", x.release(), 65535);
        Calls.add(x, "RelN", new Octets().u2(7));
        due.is("not a later one", x.release(), 65535);
        x.remove(2);
        due.is("the next one then", x.release(), 7);
    }

    private static void colour() {
        BlorbRows x = new BlorbRows();
        due.is("no Plte", x.colour(0), NONE);
        due.is("no Plte, i below 0", x.colour(-1), BAD);
        Calls.add(x, "Plte", Octets.of(255, 254, 253, 0, 1, 2, 3, 4));
        due.is("0", x.colour(0), 0xFFFEFD);
        due.is("1", x.colour(1), 0x000102);
        due.is("not so many octets", x.colour(2), NONE);
        due.is("far beyond", x.colour(Integer.MAX_VALUE), NONE);
        due.is("3 i wraps to 2", x.colour(1431655766), NONE);
        due.is("3 i wraps below 0", x.colour(715827883), NONE);
        due.is("least", x.colour(Integer.MIN_VALUE), BAD);
        Calls.add(x, "Plte", Octets.of(9, 9, 9, 9, 9, 9, 9, 9, 9));
        due.is("the first Plte alone", x.colour(2), NONE);
        Calls.change(x, 0, Octets.of());
        due.is("an empty first one", x.colour(0), NONE);
        x.remove(0);
        due.is("the next one then", x.colour(2), 0x090909);
    }
}
