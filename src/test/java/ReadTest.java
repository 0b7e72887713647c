/** Promises 4 read, 5 place: a FILE that is well formed, and every FAULT with its octet and its order. */
public final class ReadTest {
    private static final Due due = new Due();
    private static final int PICT = Octets.kind("Pict");

    public static void main(String[] args) {
        wellFormed();
        houseStaysOnFault();
        placeFollowsTheLatestRead();
        endsTooEarly();
        head();
        kinds();
        lengths();
        oddOctets();
        index();
        entries();
        entryOrder();
        tooManyChunks();
        tooManyEntries();
        orderOfPieces();
        due.end("ReadTest");
    }

    private static void fault(String name, Octets file, int fault, int place) {
        BlorbRows x = new BlorbRows();
        due.is(name + ": read()", Calls.read(x, file), -10 - fault);
        due.is(name + ": place()", x.place(), place);
        due.is(name + ": the tape is empty", x.told(3), 0);
        due.is(name + ": no chunks", x.told(0), 0);
        due.is(name + ": no entries", x.told(1), 0);
    }

    private static void fits(String name, Octets file, int chunks) {
        BlorbRows x = new BlorbRows();
        due.is(name + ": read()", Calls.read(x, file), chunks);
        due.is(name + ": place()", x.place(), BlorbRows.NONE);
    }

    private static Octets indexOf(Octets entries) {
        return new Octets().piece("RIdx", new Octets().u4(entries.length() / 12).put(entries));
    }

    private static Octets entry(String use, long number, long place) {
        return Octets.text(use).u4(number, place);
    }

    private static Octets emptyIndex() {
        return indexOf(new Octets());
    }

    private static Octets twoChunks() {
        // RIdx ends at 24 + 36; the CHUNKS stand at 60 and 72.
        Octets entries = entry("Pict", 5, 72).put(entry("Snd ", 5, 60)).put(entry("Exec", 4294967295L, 72));
        return Octets.form(indexOf(entries).piece("OGGV", Octets.of(9, 8, 7)).piece("Rect", new Octets().u4(3, 4)));
    }

    private static void wellFormed() {
        BlorbRows x = new BlorbRows();
        Calls.add(x, "TEXT", Octets.of(1));
        x.mean(Octets.kind("Data"), 1, 0);
        due.is("read() of two", Calls.read(x, twoChunks()), 2);
        due.is("the tape is empty", x.told(3), 0);
        due.is("what was there is gone", x.find(Octets.kind("Data"), 1), BlorbRows.NONE);
        due.is("octets", x.told(2), 11);
        due.is("entries", x.told(1), 3);
        due.is("kind 0", x.chunk(0, 0), Octets.kind("OGGV"));
        due.is("kind 1", x.chunk(1, 0), Octets.kind("Rect"));
        due.is("octet", x.octet(0, 2), 7);
        due.is("octet of the second", x.octet(1, 7), 4);
        due.is("entry 0 chunk", x.entry(0, 2), 1);
        due.is("entry 1 chunk", x.entry(1, 2), 0);
        due.is("entry 1 use", x.entry(1, 0), Octets.kind("Snd "));
        due.is("entry 2 number", x.entry(2, 1), 4294967295L);
        due.is("entry 2 chunk", x.entry(2, 2), 1);
        fits("no chunks", Octets.form(emptyIndex()), 0);
        fits("kinds of the least and the greatest octets", Octets.form(emptyIndex().piece("    ", Octets.of()).piece("~~~~", Octets.of(1))), 2);
        fits("FORM and IFRS as chunks", Octets.form(emptyIndex().piece("FORM", Octets.of()).piece("IFRS", Octets.of())), 2);
    }

    private static void houseStaysOnFault() {
        BlorbRows x = new BlorbRows();
        Calls.read(x, twoChunks());
        // Everything but the last ENTRY's PLACE is well formed.
        Octets bad = Octets.form(indexOf(entry("Data", 1, 60).put(entry("Data", 2, 60)).put(entry("Data", 3, 61)))
            .piece("TEXT", Octets.of(1)));
        due.is("a late fault", Calls.read(x, bad), -18);
        due.is("chunks stay", x.told(0), 2);
        due.is("entries stay", x.told(1), 3);
        due.is("octets stay", x.octet(0, 0), 9);
        due.is("meanings stay", x.find(PICT, 5), 1);
        due.is("the tape is empty all the same", x.told(3), 0);
    }

    private static void placeFollowsTheLatestRead() {
        BlorbRows x = new BlorbRows();
        due.is("none yet", x.place(), BlorbRows.NONE);
        x.feed(3, 1);
        x.read();
        due.is("of the first", x.place(), 3);
        x.feed(5, 1);
        due.is("other calls change nothing", x.place(), 3);
        x.cut(0);
        Calls.read(x, twoChunks());
        due.is("had none", x.place(), BlorbRows.NONE);
        x.read();
        due.is("of an empty tape", x.place(), 0);
    }

    private static void endsTooEarly() {
        byte[] whole = Octets.form(emptyIndex()).bytes();
        for (int n = 0; n < 12; n++) {
            Octets file = new Octets();
            for (int i = 0; i < n; i++) {
                file.u1(whole[i]);
            }
            fault("ends at " + n, file, 1, n);
        }
        fault("no RIdx", Octets.form(new Octets()), 1, 12);
        for (int n = 1; n < 8; n++) {
            fault("RIdx's head ends early " + n, Octets.form(new Octets().put("RIdx\0\0\0\4".substring(0, n))), 1, 12 + n);
            fault("a chunk's head ends early " + n, Octets.form(emptyIndex().put("TEXT\0\0\0\4".substring(0, n))), 1, 24 + n);
        }
        fault("1 comes ahead of 2 in a piece", Octets.form(emptyIndex().u1(1, 2, 3)), 1, 27);
    }

    private static void head() {
        Octets rest = Octets.text("IFRS").put(emptyIndex());
        fault("not FORM", Octets.text("FORm").u4(16).put(rest), 2, 0);
        fault("not FORM ahead of its u4", Octets.text("XORM").u4(1).put(rest), 2, 0);
        fault("u4 too small", Octets.text("FORM").u4(15).put(rest), 3, 4);
        fault("u4 too large", Octets.text("FORM").u4(17).put(rest), 3, 4);
        fault("u4 without a sign", Octets.text("FORM").u4(0xFFFFFFFFL).put(rest), 3, 4);
        fault("u4 of the whole", Octets.text("FORM").u4(24).put(rest), 3, 4);
        fault("u4 ahead of IFRS", Octets.text("FORM").u4(15).put("IFRX").put(emptyIndex()), 3, 4);
        fault("not IFRS", Octets.text("FORM").u4(16).put("IFRX").put(emptyIndex()), 2, 8);
        fits("right", Octets.text("FORM").u4(16).put(rest), 0);
    }

    private static void kinds() {
        fault("the first is not RIdx", Octets.form(new Octets().piece("RIDX", new Octets().u4(0))), 2, 12);
        fault("the first is no kind", Octets.form(new Octets().piece("\0\0\0\0", new Octets().u4(0))), 2, 12);
        fault("a second RIdx", Octets.form(emptyIndex().piece("TEXT", Octets.of(1, 2)).put(emptyIndex())), 2, 34);
        String[] none = {"\37EXT", "T\37XT", "TE\37T", "TEX\37", "\177EXT", "T\177XT", "TE\177T", "TEX\177", "\u00ffEXT", "TEX\u0080"};
        for (String kind : none) {
            fault("no kind", Octets.form(emptyIndex().piece("ABCD", Octets.of()).piece(kind, Octets.of(1))), 2, 32);
        }
        fault("2 ahead of 4", Octets.form(emptyIndex().put("TEX\1").u4(99)), 2, 24);
    }

    private static void lengths() {
        fault("one too long", Octets.form(emptyIndex().put("TEXT").u4(3).u1(1, 2)), 4, 28);
        fault("the odd octet lacks", Octets.form(emptyIndex().put("TEXT").u4(3).u1(1, 2, 3)), 4, 28);
        fault("far too long", Octets.form(emptyIndex().put("TEXT").u4(0xFFFFFFFFL).u1(1, 2)), 4, 28);
        fault("far too long, even", Octets.form(emptyIndex().put("TEXT").u4(0xFFFFFFFEL).u1(1, 2)), 4, 28);
        fault("beyond an int", Octets.form(emptyIndex().put("TEXT").u4(0x80000000L)), 4, 28);
        fault("at the edge of an int", Octets.form(emptyIndex().put("TEXT").u4(0x7FFFFFFFL)), 4, 28);
        fault("RIdx too long", Octets.form(new Octets().put("RIdx").u4(5).u4(0)), 4, 16);
        fits("just right", Octets.form(emptyIndex().put("TEXT").u4(2).u1(1, 2)), 1);
    }

    private static void oddOctets() {
        fault("not 0", Octets.form(emptyIndex().put("TEXT").u4(3).u1(1, 2, 3, 4)), 5, 35);
        fault("not 0 within", Octets.form(emptyIndex().put("TEXT").u4(1).u1(1, 255).piece("TEXT", Octets.of())), 5, 33);
        fault("RIdx's own", Octets.form(new Octets().put("RIdx").u4(5).u4(0).u1(0, 7)), 5, 25);
        fits("0", Octets.form(emptyIndex().put("TEXT").u4(3).u1(1, 2, 3, 0)), 1);
    }

    private static void index() {
        fault("empty", Octets.form(new Octets().piece("RIdx", Octets.of())), 6, 16);
        fault("three octets", Octets.form(new Octets().piece("RIdx", Octets.of(0, 0, 0))), 6, 16);
        fault("five octets", Octets.form(new Octets().piece("RIdx", Octets.of(0, 0, 0, 0, 0))), 6, 16);
        fault("n too large", Octets.form(new Octets().piece("RIdx", new Octets().u4(1))), 6, 16);
        fault("n too small", Octets.form(new Octets().piece("RIdx", new Octets().u4(0).zeros(12))), 6, 16);
        fault("n without a sign", Octets.form(new Octets().piece("RIdx", new Octets().u4(0xFFFFFFFFL))), 6, 16);
        // 12 n as a u4 would be 0 here, and 12 in the next one: the product must not wrap.
        fault("12 n beyond u4", Octets.form(new Octets().piece("RIdx", new Octets().u4(0x40000000L))), 6, 16);
        fault("12 n beyond u4 again", Octets.form(new Octets().piece("RIdx", new Octets().u4(0x80000001L).zeros(12))), 6, 16);
        fault("6 ahead of an entry's", Octets.form(new Octets().piece("RIdx", new Octets().u4(2).put(entry("Nope", 1, 1)))), 6, 16);
        fault("an odd piece's fault ahead of 6", Octets.form(new Octets().piece("RIdx", Octets.of()).put("TEXT").u4(9)), 4, 24);
    }

    private static Octets withEntries(Octets entries) {
        return Octets.form(indexOf(entries).piece("TEXT", Octets.of(1, 2, 3)).piece("BINA", Octets.of()));
    }

    private static void entries() {
        fits("all uses", withEntries(entry("Pict", 1, 72).put(entry("Snd ", 1, 72)).put(entry("Data", 1, 72)).put(entry("Exec", 1, 84))), 2);
        fault("no use", withEntries(entry("Pict", 1, 48).put(entry("Snd\0", 1, 48))), 7, 36);
        fault("no use, a kind", withEntries(entry("TEXT", 1, 36)), 7, 24);
        fault("the same twice", withEntries(entry("Pict", 1, 60).put(entry("Snd ", 1, 60)).put(entry("Pict", 1, 72))), 9, 48);
        fits("the same number, other uses", withEntries(entry("Pict", 1, 48).put(entry("Snd ", 1, 48))), 2);
        fits("the same use, other numbers", withEntries(entry("Pict", 1, 48).put(entry("Pict", 0x10001, 48))), 2);
        long[] places = {0, 8, 12, 20, 35, 37, 40, 47, 49, 56, 4294967295L, 0x80000024L};
        for (long place : places) {
            fault("no place " + place, withEntries(entry("Pict", 1, place)), 8, 32);
        }
        fits("the first place", withEntries(entry("Pict", 1, 36)), 2);
        fits("the second place", withEntries(entry("Pict", 1, 48)), 2);
    }

    private static void entryOrder() {
        fault("7 ahead of 8", withEntries(entry("Nope", 1, 1)), 7, 24);
        fault("9 ahead of 8", withEntries(entry("Pict", 1, 48).put(entry("Pict", 1, 1))), 9, 36);
        fault("the first entry's 8 ahead of the second's 7", withEntries(entry("Pict", 1, 1).put(entry("Nope", 1, 48))), 8, 32);
    }

    private static Octets manyChunks(int n) {
        Octets pieces = emptyIndex();
        for (int i = 0; i < n; i++) {
            pieces.piece("TEXT", i % 2 == 0 ? Octets.of(i) : Octets.of());
        }
        return pieces;
    }

    private static void tooManyChunks() {
        int at = 24 + 30 * 10 + 30 * 8;
        fits("60 chunks", Octets.form(manyChunks(60)), 60);
        fault("61 chunks", Octets.form(manyChunks(61)), 10, at);
        fault("62 chunks", Octets.form(manyChunks(62)), 10, at);
        fault("the 61st: 1 ahead of 10", Octets.form(manyChunks(60).put("TEXT")), 1, at + 4);
        fault("the 61st: 2 ahead of 10", Octets.form(manyChunks(60).piece("TEX\1", Octets.of())), 2, at);
        fault("the 61st: RIdx", Octets.form(manyChunks(60).put(emptyIndex())), 2, at);
        fault("the 61st: 10 ahead of 4", Octets.form(manyChunks(60).put("TEXT").u4(99)), 10, at);
        fault("the 61st: 10 ahead of 5", Octets.form(manyChunks(60).put("TEXT").u4(1).u1(1, 1)), 10, at);
        fault("10 of chunks ahead of 6", Octets.form(new Octets().piece("RIdx", new Octets().u4(7)).put(
            manyChunksOnly(61))), 10, 24 + 61 * 8 - 8);
    }

    private static Octets manyChunksOnly(int n) {
        Octets pieces = new Octets();
        for (int i = 0; i < n; i++) {
            pieces.piece("TEXT", Octets.of());
        }
        return pieces;
    }

    private static Octets manyEntries(int n, int more, Octets last) {
        int place = 24 + 12 * (n + more);
        Octets entries = new Octets();
        for (int i = 0; i < n; i++) {
            entries.put(entry("Data", i, place));
        }
        return Octets.form(indexOf(entries.put(last)).piece("TEXT", Octets.of()));
    }

    private static void tooManyEntries() {
        BlorbRows x = new BlorbRows();
        due.is("40 entries", Calls.read(x, manyEntries(40, 0, new Octets())), 1);
        due.is("all of them", x.told(1), 40);
        due.is("the last one", x.entry(39, 1), 39);
        due.is("all mean it", x.chunk(0, 3), 40);
        int at = 24 + 480;
        fault("41 entries", manyEntries(41, 0, new Octets()), 10, at);
        fault("42 entries", manyEntries(42, 0, new Octets()), 10, at);
        fault("the 41st: 10 ahead of 7", manyEntries(40, 1, entry("Nope", 1, 1)), 10, at);
        fault("the 41st: 10 ahead of 9", manyEntries(40, 1, entry("Data", 1, 1)), 10, at);
        fault("the 40th: 9", manyEntries(39, 1, entry("Data", 38, 504)), 9, at - 12);
        fault("the 40th: 8", manyEntries(39, 1, entry("Data", 39, 505)), 8, at - 4);
    }

    private static void orderOfPieces() {
        Octets wrongEntry = indexOf(entry("Nope", 1, 1));
        fault("pieces ahead of entries", Octets.form(wrongEntry.put("TEXT").u4(1).u1(1, 1)), 5, 45);
        fault("the first piece's ahead of the second's",
            Octets.form(emptyIndex().put("TEXT").u4(1).u1(1, 1).put("TEX\1").u4(0)), 5, 33);
    }
}
