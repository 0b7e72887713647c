/** Promise 11 size: a method for each sentence on WIDE and HIGH that names an edge. */
public final class PictureTest {
    private static final Due due = new Due();
    private static final int NONE = BlorbRows.NONE;
    private static final int BAD = BlorbRows.BAD;

    public static void main(String[] args) {
        rectsFirstTwo();
        rectHasEight();
        pngsNumbers();
        pngHas24();
        pngBegins();
        pngsIhdr();
        jpegBegins();
        jpegs255OnceOrMore();
        jpegMarkWithoutIts255();
        jpegMarksWithNothingMore();
        jpegMarksWithoutMeasure();
        jpegsLengthIsTwoAtLeast();
        jpegsNextMarkIsBehind();
        jpegsFrames();
        jpegsMarksThatAreNoFrames();
        jpegsFrameIsSevenAtLeast();
        jpegsFiveMustBeThere();
        jpegsFirstFrameIsIt();
        whateverIsNotThere();
        otherKinds();
        notIntoTheNextChunk();
        noSuchChunk();
        noSuchAxis();
        due.end("PictureTest");
    }

    private static BlorbRows with(String kind, Octets data) {
        BlorbRows x = new BlorbRows();
        Calls.add(x, kind, data);
        return x;
    }

    private static void size(String name, String kind, Octets data, long wide, long high) {
        BlorbRows x = with(kind, data);
        due.is(name + ": WIDE", x.size(0, 0), wide);
        due.is(name + ": HIGH", x.size(0, 1), high);
    }

    private static void none(String name, String kind, Octets data) {
        size(name, kind, data, NONE, NONE);
    }

    private static Octets first(Octets whole, int n) {
        byte[] row = whole.bytes();
        Octets part = new Octets();
        for (int i = 0; i < n; i++) {
            part.u1(row[i]);
        }
        return part;
    }

    private static void rectsFirstTwo() {
        due.promise(11, "of \"Rect\": the first two u4 of its DATA");
        size("320 by 200", "Rect", new Octets().u4(320, 200), 320, 200);
        size("the greatest", "Rect", new Octets().u4(4294967295L, 0x80000000L), 4294967295L, 0x80000000L);
        size("0 by 0", "Rect", new Octets().u4(0, 0), 0, 0);
        size("every octet", "Rect", new Octets().u4(0x01020304L, 0xF1F2F3F4L), 0x01020304L, 0xF1F2F3F4L);
    }

    private static void rectHasEight() {
        due.promise(11, "8 octets it has, at least");
        Octets whole = new Octets().u4(320, 200);
        for (int n = 0; n < 8; n++) {
            none("of " + n, "Rect", first(whole, n));
        }
        size("of 8", "Rect", whole, 320, 200);
        size("of 9", "Rect", new Octets().u4(320, 200).u1(9), 320, 200);
    }

    private static Octets png(long wide, long high) {
        return Octets.of(137, 80, 78, 71, 13, 10, 26, 10).u4(13).put("IHDR").u4(wide, high);
    }

    private static void pngsNumbers() {
        due.promise(11, "Of \"PNG \": the u4 at 16, at 20");
        size("640 by 480", "PNG ", png(640, 480), 640, 480);
        size("the greatest", "PNG ", png(4294967295L, 4294967294L), 4294967295L, 4294967294L);
        size("0 by 0", "PNG ", png(0, 0), 0, 0);
    }

    private static void pngHas24() {
        due.promise(11, "if its DATA has 24 octets or more");
        for (int n = 0; n < 24; n++) {
            none("of " + n, "PNG ", first(png(640, 480), n));
        }
        size("of 24", "PNG ", png(640, 480), 640, 480);
        size("of 25", "PNG ", png(640, 480).u1(9), 640, 480);
    }

    private static void pngBegins() {
        due.promise(11, "begins with 137 80 78 71 13 10 26 10");
        for (int i = 0; i < 8; i++) {
            int[] head = {137, 80, 78, 71, 13, 10, 26, 10};
            head[i]++;
            none("octet " + i, "PNG ", Octets.of(head).u4(13).put("IHDR").u4(640, 480));
            head[i] += 127;
            none("octet " + i + " and 128", "PNG ", Octets.of(head).u4(13).put("IHDR").u4(640, 480));
        }
    }

    private static void pngsIhdr() {
        due.promise(11, "and \"IHDR\" is from octet 12 on");
        Octets head = Octets.of(137, 80, 78, 71, 13, 10, 26, 10);
        String[] wrong = {"XHDR", "IXDR", "IHXR", "IHDX", "ihdr"};
        for (String kind : wrong) {
            none(kind, "PNG ", new Octets().put(head).u4(13).put(kind).u4(640, 480));
        }
        none("from octet 8 on", "PNG ", new Octets().put(head).put("IHDR").u4(640, 480, 1, 2));
        size("what is ahead of it is free", "PNG ", new Octets().put(head).u4(4294967295L).put("IHDR").u4(6, 7), 6, 7);
    }

    private static Octets jpeg() {
        return Octets.of(255, 216);
    }

    private static Octets frame(int mark) {
        return Octets.of(255, mark).u2(17).u1(8).u2(300, 600).zeros(10);
    }

    private static boolean isFrame(int mark) {
        return mark >= 192 && mark <= 207 && mark != 196 && mark != 200 && mark != 204;
    }

    private static boolean standsAlone(int mark) {
        return mark == 1 || mark >= 208 && mark <= 215;
    }

    private static boolean ends(int mark) {
        return mark == 216 || mark == 217 || mark == 0;
    }

    private static void jpegBegins() {
        due.promise(11, "Of \"JPEG\": its DATA begins with 255 216");
        size("255 216", "JPEG", jpeg().put(frame(192)), 600, 300);
        none("255 217", "JPEG", Octets.of(255, 217).put(frame(192)));
        none("254 216", "JPEG", Octets.of(254, 216).put(frame(192)));
        none("255 255 216", "JPEG", Octets.of(255, 255, 216).put(frame(192)));
        none("without them", "JPEG", frame(192));
    }

    private static void jpegs255OnceOrMore() {
        due.promise(11, "255 (once or more), and an octet m that is not 255");
        for (int n = 1; n <= 20; n++) {
            Octets data = jpeg();
            for (int i = 1; i < n; i++) {
                data.u1(255);
            }
            size("255 " + n + " times", "JPEG", data.put(frame(193)), 600, 300);
        }
        none("nothing but 255", "JPEG", jpeg().u1(255, 255, 255));
    }

    private static void jpegMarkWithoutIts255() {
        due.promise(11, "255 (once or more), and an octet m that is not 255");
        Octets bare = Octets.of(192).u2(17).u1(8).u2(300, 600).zeros(10);
        none("the first", "JPEG", jpeg().put(bare));
        none("behind another", "JPEG", jpeg().u1(255, 254).u2(2).put(bare));
        none("an octet between", "JPEG", jpeg().u1(255, 254).u2(2).u1(0).put(frame(193)));
        none("behind one with nothing more", "JPEG", jpeg().u1(255, 208).put(bare));
    }

    private static void jpegMarksWithNothingMore() {
        due.promise(11, "m 1, 208 .. 215: nothing more");
        for (int mark = 0; mark < 255; mark++) {
            // Another MARK takes 255 192 as its u2, and a frame reads its numbers from there on.
            int want = standsAlone(mark) ? 600 : isFrame(mark) ? 300 : NONE;
            due.is("m " + mark, with("JPEG", jpeg().u1(255, mark).put(frame(192))).size(0, 0), want);
        }
        Octets many = jpeg();
        for (int i = 0; i < 100; i++) {
            many.u1(255, i % 9 == 8 ? 1 : 208 + i % 9);
        }
        size("100 of them", "JPEG", many.put(frame(207)), 600, 300);
    }

    private static void jpegMarksWithoutMeasure() {
        due.promise(11, "m 216, 217, 0: there is no measure");
        int[] marks = {216, 217, 0};
        for (int mark : marks) {
            none("m " + mark, "JPEG", jpeg().u1(255, mark).put(frame(192)));
            none("m " + mark + " and a length", "JPEG", jpeg().u1(255, mark).u2(2).put(frame(192)));
            none("m " + mark + " behind another", "JPEG", jpeg().u1(255, 224).u2(2).u1(255, mark).u2(2).put(frame(192)));
        }
    }

    private static void jpegsLengthIsTwoAtLeast() {
        due.promise(11, "else a u2 s (2 or more)");
        size("s of 2", "JPEG", jpeg().u1(255, 254).u2(2).put(frame(193)), 600, 300);
        none("s of 1", "JPEG", jpeg().u1(255, 254).u2(1).put(frame(193)));
        none("s of 0", "JPEG", jpeg().u1(255, 254).u2(0).put(frame(193)));
        none("s of 0 and an octet", "JPEG", jpeg().u1(255, 254).u2(0).u1(0).put(frame(193)));
        none("s of 1 ahead of 255", "JPEG", jpeg().u1(255, 254, 0, 1, 255, 255).put(frame(193)));
    }

    private static void jpegsNextMarkIsBehind() {
        due.promise(11, "and s - 2 octets, the next MARK being behind");
        for (int mark = 0; mark < 255; mark++) {
            boolean skips = !standsAlone(mark) && !ends(mark) && !isFrame(mark);
            BlorbRows x = with("JPEG", jpeg().u1(255, mark).u2(5).u1(9, 9, 9).put(frame(192)));
            due.is("m " + mark + " with three octets", x.size(0, 1), skips ? 300 : NONE);
        }
        size("a frame within is none", "JPEG", jpeg().u1(255, 225).u2(11).u1(255, 192).u2(7).u1(8).u2(1, 2).put(frame(192)), 600, 300);
        none("up to the end", "JPEG", jpeg().u1(255, 224).u2(4).u1(1, 2));
        none("one beyond the end", "JPEG", jpeg().u1(255, 224).u2(5).u1(1, 2));
        none("the greatest", "JPEG", jpeg().u1(255, 224).u2(65535).u1(1, 2, 3));
        size("s of 256 and more", "JPEG", jpeg().u1(255, 224).u2(258).zeros(256).put(frame(192)), 600, 300);
    }

    private static void jpegsFrames() {
        due.promise(11, "of m 192 .. 207: an octet, HIGH (u2), WIDE (u2)");
        for (int mark = 192; mark <= 207; mark++) {
            if (isFrame(mark)) {
                size("m " + mark, "JPEG", jpeg().put(frame(mark)), 600, 300);
            }
        }
        size("the greatest", "JPEG", jpeg().u1(255, 192).u2(7).u1(8).u2(65535, 65534), 65534, 65535);
        size("0 by 0", "JPEG", jpeg().u1(255, 192).u2(7).u1(8).u2(0, 0), 0, 0);
    }

    private static void jpegsMarksThatAreNoFrames() {
        due.promise(11, "of m 192 .. 207 but 196, 200, 204");
        int[] marks = {191, 196, 200, 204, 218, 224, 254, 2};
        for (int mark : marks) {
            none("m " + mark, "JPEG", jpeg().put(frame(mark)));
            size("m " + mark + " ahead of a frame", "JPEG", jpeg().put(frame(mark)).u1(255, 192).u2(7).u1(8).u2(1, 2), 2, 1);
        }
        none("m 208", "JPEG", jpeg().put(frame(208)));
    }

    private static void jpegsFrameIsSevenAtLeast() {
        due.promise(11, "s is 7 at least");
        for (int s = 0; s < 7; s++) {
            none("s of " + s, "JPEG", jpeg().u1(255, 192).u2(s).u1(8).u2(1, 2).put(frame(192)));
        }
        size("s of 7", "JPEG", jpeg().u1(255, 192).u2(7).u1(8).u2(1, 2), 2, 1);
    }

    private static void jpegsFiveMustBeThere() {
        due.promise(11, "these five must be there, no others");
        Octets whole = jpeg().u1(255, 192).u2(17).u1(8).u2(300, 600);
        for (int n = 4; n < 11; n++) {
            none("up to octet " + n, "JPEG", first(whole, n));
        }
        size("five", "JPEG", whole, 600, 300);
        size("five of 65533", "JPEG", jpeg().u1(255, 192).u2(65535).u1(8).u2(300, 600), 600, 300);
    }

    private static void jpegsFirstFrameIsIt() {
        due.promise(11, "that is it");
        size("two frames", "JPEG", jpeg().u1(255, 194).u2(7).u1(8).u2(5, 6).put(frame(192)), 6, 5);
        size("what is behind is free", "JPEG", jpeg().u1(255, 194).u2(7).u1(8).u2(5, 6).u1(1, 2, 3), 6, 5);
    }

    private static void whateverIsNotThere() {
        due.promise(11, "Whatever is not so, or not there: NONE");
        Octets whole = jpeg().u1(255, 255, 224).u2(4).u1(1, 2).u1(255, 192).u2(7).u1(8).u2(3, 4);
        for (int n = 0; n < whole.length(); n++) {
            none("ends at " + n, "JPEG", first(whole, n));
        }
        size("all is there", "JPEG", whole, 4, 3);
    }

    private static void otherKinds() {
        due.promise(11, "Of other KINDS: NONE");
        String[] kinds = {"TEXT", "rect", "FORM", "Pict", "PNG_", "JPG ", "Reso"};
        for (String kind : kinds) {
            none(kind + " like Rect", kind, new Octets().u4(320, 200));
            none(kind + " like PNG", kind, png(1, 2));
            none(kind + " like JPEG", kind, jpeg().put(frame(192)));
        }
        none("JPEG like PNG", "JPEG", png(1, 2));
        none("PNG like JPEG", "PNG ", jpeg().put(frame(192)).zeros(9));
    }

    private static void notIntoTheNextChunk() {
        due.promise(11, "Whatever is not there: NONE");
        String[] kinds = {"Rect", "PNG ", "JPEG"};
        Octets[] wholes = {new Octets().u4(1, 2), png(1, 2), jpeg().u1(255, 192).u2(7).u1(8).u2(1, 2)};
        for (int i = 0; i < 3; i++) {
            BlorbRows x = with(kinds[i], first(wholes[i], wholes[i].length() - 1));
            Calls.add(x, "TEXT", Octets.of(2));
            due.is(kinds[i] + " WIDE", x.size(0, 0), NONE);
            due.is(kinds[i] + " HIGH", x.size(0, 1), NONE);
        }
    }

    private static void noSuchChunk() {
        due.promise(11, "BAD: there is no such thing");
        BlorbRows x = with("Rect", new Octets().u4(1, 2));
        int[] wrong = {-1, 1, 60, Integer.MIN_VALUE, Integer.MAX_VALUE};
        for (int k : wrong) {
            due.is("size(" + k + ", 0)", x.size(k, 0), BAD);
        }
    }

    private static void noSuchAxis() {
        due.promise(11, "BAD: a number is not as told: WIDE (0), HIGH (1)");
        BlorbRows x = with("Rect", new Octets().u4(1, 2));
        Calls.add(x, "TEXT", Octets.of());
        int[] wrong = {-1, 2, Integer.MIN_VALUE, Integer.MAX_VALUE};
        for (int axis : wrong) {
            due.is("size(0, " + axis + ")", x.size(0, axis), BAD);
            due.is("size(1, " + axis + "), ahead of NONE", x.size(1, axis), BAD);
        }
    }
}
