/** Promise 12 sound: a method for each sentence on a SOUND that names an edge. */
public final class SoundTest {
    private static final Due due = new Due();
    private static final int NONE = BlorbRows.NONE;
    private static final int BAD = BlorbRows.BAD;

    public static void main(String[] args) {
        commTells();
        isAForm();
        beginsWithAiff();
        piecesOfAnyKind();
        piecesWithOddOctets();
        lastOddOctetMayLack();
        commOf18OrMore();
        firstComm();
        noComm();
        kindOrLengthBeyondTheEnd();
        dataBeyondTheEnd();
        itsOwnDataBeyondTheEnd();
        lengthsThatWrap();
        nothingBehindItCounts();
        notIntoTheNextChunk();
        rateRoundedDown();
        rateOfTheGreatest();
        rateBelowOne();
        rateWithoutSign();
        rateNone();
        noSuchChunk();
        noSuchThing();
        due.end("SoundTest");
    }

    private static Octets comm() {
        return new Octets().u2(2).u4(44100).u2(16).u2(16398).u4(0xAC440000L, 0);
    }

    private static Octets aiff() {
        return Octets.text("AIFF");
    }

    private static BlorbRows with(String kind, Octets data) {
        BlorbRows x = new BlorbRows();
        Calls.add(x, kind, data);
        return x;
    }

    private static void tells(String name, BlorbRows x, long channels, long frames, long bits, long rate) {
        due.is(name + ": CHANNELS", x.sound(0, 0), channels);
        due.is(name + ": FRAMES", x.sound(0, 1), frames);
        due.is(name + ": BITS", x.sound(0, 2), bits);
        due.is(name + ": RATE", x.sound(0, 3), rate);
    }

    /** It tells what comm() has. */
    private static void sounds(String name, Octets data) {
        tells(name, with("FORM", data), 2, 44100, 16, 44100);
    }

    private static void silent(String name, Octets data) {
        tells(name, with("FORM", data), NONE, NONE, NONE, NONE);
    }

    private static void commTells() {
        due.promise(12, "tells CHANNELS (u2), FRAMES (u4), BITS (u2), RATE");
        sounds("as they are", aiff().piece("COMM", comm()));
        Octets greatest = new Octets().u2(65535).u4(4294967295L).u2(65535, 0).u4(0, 0);
        tells("the greatest", with("FORM", aiff().piece("COMM", greatest)), 65535, 4294967295L, 65535, 0);
        tells("of 0", with("FORM", aiff().piece("COMM", new Octets().zeros(18))), 0, 0, 0, 0);
    }

    private static void isAForm() {
        due.promise(12, "A SOUND is a CHUNK \"FORM\"");
        String[] kinds = {"OGGV", "MOD ", "SONG", "AIFF", "form", "TEXT"};
        for (String kind : kinds) {
            tells(kind, with(kind, aiff().piece("COMM", comm())), NONE, NONE, NONE, NONE);
        }
    }

    private static void beginsWithAiff() {
        due.promise(12, "whose DATA begins with \"AIFF\"");
        String[] wrong = {"AIFC", "aiff", "XIFF", "AXFF", "AIXF", ""};
        for (String kind : wrong) {
            silent(kind, Octets.text(kind).piece("COMM", comm()));
        }
        for (int n = 0; n <= 4; n++) {
            silent("its first " + n + " octets alone", Octets.text("AIFF".substring(0, n)));
        }
    }

    private static void piecesOfAnyKind() {
        due.promise(12, "KINDS any four octets");
        sounds("octets of 0", aiff().piece("\0\0\0\0", Octets.of(5, 6)).piece("COMM", comm()));
        sounds("octets of 255", aiff().piece("\u00ff\u00ff\u00ff\u00ff", Octets.of(5, 6)).piece("COMM", comm()));
        sounds("31 and 127", aiff().piece("\37\177\37\177", Octets.of()).piece("COMM", comm()));
        sounds("RIdx twice", aiff().piece("RIdx", Octets.of()).piece("RIdx", Octets.of()).piece("COMM", comm()));
    }

    private static void piecesWithOddOctets() {
        due.promise(12, "PIECES (as of a FILE): an octet 0 behind if they are odd in number");
        for (int n = 0; n < 6; n++) {
            sounds("behind one of " + n, aiff().piece("SSND", new Octets().zeros(n)).piece("COMM", comm()));
        }
        sounds("behind two odd ones", aiff().piece("SSND", Octets.of(1)).piece("SSND", Octets.of(1, 2, 3)).piece("COMM", comm()));
        silent("the odd octet lacks ahead of COMM", aiff().put("SSND").u4(1).u1(1).piece("COMM", comm()));
        silent("an octet too much behind an even one", aiff().put("SSND").u4(2).u1(1, 1, 0).piece("COMM", comm()));
    }

    private static void lastOddOctetMayLack() {
        due.promise(12, "a last odd octet may lack");
        sounds("a COMM of 19 without it", aiff().put("COMM").u4(19).put(comm()).u1(1));
        sounds("a COMM of 19 with it", aiff().put("COMM").u4(19).put(comm()).u1(1, 0));
        silent("of another piece, without COMM", aiff().put("SSND").u4(1).u1(1));
    }

    private static void commOf18OrMore() {
        due.promise(12, "\"COMM\" of 18 octets or more");
        for (int n = 0; n < 18; n++) {
            silent("of " + n, aiff().piece("COMM", new Octets().zeros(n)));
            sounds("of " + n + " ahead of another", aiff().piece("COMM", new Octets().zeros(n)).piece("COMM", comm()));
        }
        sounds("of 18", aiff().piece("COMM", comm()));
        sounds("of 19", aiff().piece("COMM", comm().u1(1)));
        sounds("of 300", aiff().piece("COMM", comm().zeros(282)));
    }

    private static void firstComm() {
        due.promise(12, "the first \"COMM\" of 18 octets or more");
        Octets two = aiff().piece("COMM", comm()).piece("COMM", new Octets().zeros(18));
        sounds("two", two);
        Octets other = new Octets().u2(1).u4(3).u2(8, 16383).u4(0x80000000L, 0);
        tells("two, the other way round", with("FORM", aiff().piece("COMM", other).piece("COMM", comm())), 1, 3, 8, 1);
    }

    private static void noComm() {
        due.promise(12, "or there is none such");
        silent("AIFF alone", aiff());
        silent("other pieces", aiff().piece("SSND", new Octets().zeros(18)).piece("comm", comm()).piece("COMN", comm()));
        silent("COMM within another", aiff().piece("SSND", new Octets().piece("COMM", comm())));
        silent("an empty one", Octets.of());
    }

    private static void kindOrLengthBeyondTheEnd() {
        due.promise(12, "none of these if a PIECE's KIND, u4 goes beyond the end before such a \"COMM\" is found");
        for (int n = 1; n < 8; n++) {
            silent("a head of " + n, aiff().put("COMM\0\0\0\22".substring(0, n)));
            silent("a head of " + n + " behind another", aiff().piece("SSND", Octets.of(1)).put("COMM\0\0\0\22".substring(0, n)));
        }
    }

    private static void dataBeyondTheEnd() {
        due.promise(12, "none of these if a PIECE's DATA goes beyond the end before such a \"COMM\" is found");
        silent("one beyond", aiff().put("SSND").u4(27).piece("COMM", comm()));
        silent("up to the end", aiff().put("SSND").u4(26).piece("COMM", comm()));
        silent("of a short COMM", aiff().put("COMM").u4(17).zeros(16));
    }

    private static void itsOwnDataBeyondTheEnd() {
        due.promise(12, "its own DATA, too");
        silent("one beyond", aiff().put("COMM").u4(19).put(comm()));
        silent("18 where there are none", aiff().put("COMM").u4(18));
        silent("18 where there are 17", aiff().put("COMM").u4(18).zeros(17));
        silent("far beyond", aiff().put("COMM").u4(0xFFFFFFFFL).put(comm()));
    }

    private static void lengthsThatWrap() {
        due.promise(12, "DATA goes beyond the end: u4 without a sign");
        long[] lengths = {0x7FFFFFFFL, 0x80000000L, 0xFFFFFFF8L, 0xFFFFFFFEL, 0xFFFFFFFFL, 0x7FFFFFF3L};
        for (long length : lengths) {
            silent("of " + length, aiff().put("SSND").u4(length).piece("COMM", comm()));
            silent("COMM of " + length, aiff().put("COMM").u4(length).put(comm()));
        }
    }

    private static void nothingBehindItCounts() {
        due.promise(12, "before such a \"COMM\" is found");
        sounds("half a KIND behind it", aiff().piece("COMM", comm()).put("XX"));
        sounds("a DATA beyond the end behind it", aiff().piece("COMM", comm()).put("SSND").u4(99));
    }

    private static void notIntoTheNextChunk() {
        due.promise(12, "up to its end");
        BlorbRows x = with("FORM", aiff().put("COMM").u4(18).put(new Octets().zeros(17)));
        Calls.add(x, "TEXT", Octets.of(1, 2, 3));
        tells("the next chunk", x, NONE, NONE, NONE, NONE);
        BlorbRows y = with("FORM", aiff());
        Calls.add(y, "TEXT", new Octets().piece("COMM", comm()));
        tells("a COMM in the next chunk", y, NONE, NONE, NONE, NONE);
    }

    private static long rateOf(int e, long high, long low) {
        Octets data = aiff().piece("COMM", new Octets().u2(1).u4(1).u2(8).u2(e).u4(high, low));
        return with("FORM", data).sound(0, 3);
    }

    private static void rateRoundedDown() {
        due.promise(12, "m divided by 2 to the power of 16446 - e, rounded down");
        due.is("44100", rateOf(16398, 0xAC440000L, 0), 44100);
        due.is("nearly 44101", rateOf(16398, 0xAC44FFFFL, 0xFFFFFFFFL), 44100);
        due.is("1", rateOf(16383, 0x80000000L, 0), 1);
        due.is("nearly 2", rateOf(16383, 0xFFFFFFFFL, 0xFFFFFFFFL), 1);
        due.is("of the lower four octets", rateOf(16445, 0, 0x80000003L), 0x40000001L);
        for (int e = 16383; e <= 16445; e++) {
            due.is("e of " + e, rateOf(e, 0x80000000L, 0), 1L << (e - 16383));
        }
    }

    private static void rateOfTheGreatest() {
        due.promise(12, "NONE if e is above 16445");
        due.is("e of 16445", rateOf(16445, 0xFFFFFFFFL, 0xFFFFFFFFL), Long.MAX_VALUE);
        due.is("e of 16444", rateOf(16444, 0xFFFFFFFFL, 0xFFFFFFFFL), Long.MAX_VALUE >> 1);
        due.is("e of 16445, m of 1", rateOf(16445, 0, 1), 0);
        due.is("e of 16445, m of 2", rateOf(16445, 0, 2), 1);
    }

    private static void rateBelowOne() {
        due.promise(12, "m divided by 2 to the power of 16446 - e, rounded down: to 0");
        // 64 and more: a shift of Java's would begin at 0 again.
        int[] exponents = {16382, 16381, 16350, 16319, 16318, 16317, 8192, 62, 61, 1, 0};
        for (int e : exponents) {
            due.is("e of " + e, rateOf(e, 0xFFFFFFFFL, 0xFFFFFFFFL), 0);
        }
        due.is("m of 0", rateOf(16400, 0, 0), 0);
    }

    private static void rateWithoutSign() {
        due.promise(12, "eight octets as a number m (64 bits, without sign)");
        due.is("the highest bit", rateOf(16445, 0x80000000L, 0), 1L << 62);
        due.is("all bits", rateOf(16414, 0xFFFFFFFFL, 0xFFFFFFFFL), 4294967295L);
    }

    private static void rateNone() {
        due.promise(12, "NONE if e is above 16445");
        int[] exponents = {16446, 16447, 16510, 32767, 32768, 32768 + 16398, 65535};
        for (int e : exponents) {
            due.is("e of " + e, rateOf(e, 0x80000000L, 1), NONE);
        }
        due.is("e of 16446, m of 0", rateOf(16446, 0, 0), NONE);
        Octets data = aiff().piece("COMM", new Octets().u2(1).u4(2).u2(3, 16446).u4(1, 1));
        tells("only RATE is NONE", with("FORM", data), 1, 2, 3, NONE);
    }

    private static void noSuchChunk() {
        due.promise(12, "BAD: there is no such thing");
        BlorbRows x = with("FORM", aiff().piece("COMM", comm()));
        int[] wrong = {-1, 1, 60, Integer.MIN_VALUE, Integer.MAX_VALUE};
        for (int k : wrong) {
            due.is("sound(" + k + ", 0)", x.sound(k, 0), BAD);
        }
    }

    private static void noSuchThing() {
        due.promise(12, "BAD: a number is not as told: 0 .. 3");
        BlorbRows x = with("FORM", aiff().piece("COMM", comm()));
        Calls.add(x, "TEXT", Octets.of());
        int[] wrong = {-1, 4, Integer.MIN_VALUE, Integer.MAX_VALUE};
        for (int what : wrong) {
            due.is("sound(0, " + what + ")", x.sound(0, what), BAD);
            due.is("sound(1, " + what + "), ahead of NONE", x.sound(1, what), BAD);
        }
        due.is("sound(1, 3)", x.sound(1, 3), NONE);
    }
}
