/** Promises 4 read, 5 place: FAULTS 1 to 10, each with its octet and the nearest FILE that has it not, and their order. */
public final class FaultTest {
    private static final Due due = new Due();

    public static void main(String[] args) {
        endsWithinTwelve();
        endsWhereAPieceMustBe();
        endsWithinAPiecesHead();
        notForm();
        notIfrs();
        notRidx();
        noKind();
        secondRidx();
        formsLength();
        dataBeyondTheEnd();
        oddOctetBeyondTheEnd();
        lengthsThatWrap();
        oddOctetNotZero();
        indexLength();
        indexCountThatWraps();
        noUse();
        noPlace();
        placeThatWraps();
        sameUseAndNumber();
        chunk61();
        entry41();
        orderOfTheHead();
        orderOfAPiece();
        orderOfPieces();
        orderOfAnEntry();
        orderOfEntries();
        indexLengthAheadOfEntries();
        piecesAheadOfTheIndex();
        due.end("FaultTest");
    }

    private static void fault(String name, Octets file, int fault, int place) {
        BlorbRows x = new BlorbRows();
        due.is(name + ": read()", Calls.read(x, file), -10 - fault);
        due.is(name + ": place()", x.place(), place);
        due.is(name + ": the tape", x.told(3), 0);
        due.is(name + ": chunks", x.told(0), 0);
        due.is(name + ": entries", x.told(1), 0);
    }

    private static void fits(String name, Octets file, int chunks) {
        BlorbRows x = new BlorbRows();
        due.is(name + ": read()", Calls.read(x, file), chunks);
        due.is(name + ": place()", x.place(), BlorbRows.NONE);
        due.is(name + ": chunks", x.told(0), chunks);
    }

    private static Octets indexOf(Octets entries) {
        return new Octets().piece("RIdx", new Octets().u4(entries.length() / 12).put(entries));
    }

    private static Octets entry(String use, long number, long place) {
        return Octets.text(use).u4(number, place);
    }

    /** An RIdx without an ENTRY: the first CHUNK stands at 24. */
    private static Octets index() {
        return indexOf(new Octets());
    }

    private static Octets first(byte[] whole, int n) {
        Octets row = new Octets();
        for (int i = 0; i < n; i++) {
            row.u1(whole[i]);
        }
        return row;
    }

    private static void endsWithinTwelve() {
        due.promise(4, "1 THE TAPE ends within the first twelve octets (at its length)");
        byte[] whole = Octets.form(index()).bytes();
        for (int n = 0; n < 12; n++) {
            fault("ends at " + n, first(whole, n), 1, n);
            fault("ends at " + n + ", octets of 0", new Octets().zeros(n), 1, n);
        }
        fault("twelve octets of 0", new Octets().zeros(12), 2, 0);
    }

    private static void endsWhereAPieceMustBe() {
        due.promise(4, "1 or where there must be a KIND and a u4 (at its length)");
        fault("no RIdx", Octets.form(new Octets()), 1, 12);
        fits("nothing behind RIdx", Octets.form(index()), 0);
    }

    private static void endsWithinAPiecesHead() {
        due.promise(4, "1 or where there must be a KIND and a u4 (at its length)");
        for (int n = 1; n < 8; n++) {
            fault("RIdx's head of " + n, Octets.form(new Octets().put("RIdx\0\0\0\4".substring(0, n))), 1, 12 + n);
            fault("a chunk's head of " + n, Octets.form(index().put("TEXT\0\0\0\0".substring(0, n))), 1, 24 + n);
            fault("a second chunk's head of " + n,
                Octets.form(index().piece("TEXT", Octets.of(1)).put("TEXT\0\0\0\0".substring(0, n))), 1, 34 + n);
        }
        fits("a head of 8", Octets.form(index().put("TEXT\0\0\0\0")), 1);
    }

    private static void notForm() {
        due.promise(4, "2 not the KIND that must be there (at its first octet): FORM");
        Octets rest = new Octets().u4(16).put("IFRS").put(index());
        String[] wrong = {"XORM", "FXRM", "FOXM", "FORX", "form", "IFRS", "RIdx", "\0\0\0\0"};
        for (String kind : wrong) {
            fault(kind, Octets.text(kind).put(rest), 2, 0);
        }
        fits("FORM", Octets.text("FORM").put(rest), 0);
    }

    private static void notIfrs() {
        due.promise(4, "2 not the KIND that must be there (at its first octet): IFRS");
        String[] wrong = {"XFRS", "IXRS", "IFXS", "IFRX", "ifrs", "FORM", "AIFF", "\0\0\0\0"};
        for (String kind : wrong) {
            fault(kind, Octets.text("FORM").u4(16).put(kind).put(index()), 2, 8);
        }
    }

    private static void notRidx() {
        due.promise(4, "2 not the KIND that must be there (at its first octet): The first PIECE is RIdx");
        String[] wrong = {"XIdx", "RXdx", "RIXx", "RIdX", "RIDX", "TEXT", "\0\0\0\0"};
        for (String kind : wrong) {
            fault(kind, Octets.form(new Octets().piece(kind, new Octets().u4(0))), 2, 12);
        }
        fault("RIdx as the second", Octets.form(new Octets().piece("TEXT", Octets.of()).put(index())), 2, 12);
    }

    private static void noKind() {
        due.promise(4, "2 no KIND (at its first octet): each 32 .. 126");
        for (int i = 0; i < 4; i++) {
            for (int octet = 0; octet < 256; octet++) {
                int[] kind = {'T', 'E', 'X', 'T'};
                kind[i] = octet;
                Octets file = Octets.form(index().piece("ABCD", Octets.of()).u1(kind).u4(0));
                String name = "octet " + i + " of " + octet;
                if (octet >= 32 && octet <= 126) {
                    fits(name, file, 2);
                } else {
                    fault(name, file, 2, 32);
                }
            }
        }
        fits("all least, all greatest", Octets.form(index().piece("    ", Octets.of()).piece("~~~~", Octets.of(1))), 2);
        fits("FORM and IFRS are KINDS", Octets.form(index().piece("FORM", Octets.of()).piece("IFRS", Octets.of())), 2);
    }

    private static void secondRidx() {
        due.promise(4, "2 a second \"RIdx\" (at its first octet)");
        fault("behind the first", Octets.form(index().put(index())), 2, 24);
        fault("behind a chunk", Octets.form(index().piece("TEXT", Octets.of(1, 2)).put(index())), 2, 34);
        fits("RIDX is another", Octets.form(index().piece("RIDX", Octets.of())), 1);
    }

    private static void formsLength() {
        due.promise(4, "3 FORM's u4 is not what comes behind it (at that u4)");
        Octets rest = Octets.text("IFRS").put(index());
        long[] wrong = {0, 4, 12, 15, 17, 24, 0xFFFFFFFFL, 0x80000010L, 0x01000010L};
        for (long u4 : wrong) {
            fault("u4 of " + u4, Octets.text("FORM").u4(u4).put(rest), 3, 4);
        }
        fits("u4 of 16", Octets.text("FORM").u4(16).put(rest), 0);
        fault("an octet more", Octets.text("FORM").u4(16).put(rest).u1(0), 3, 4);
        fault("twelve octets, u4 of 5", Octets.text("FORM").u4(5).put("IFRS"), 3, 4);
    }

    private static void dataBeyondTheEnd() {
        due.promise(4, "4 a DATA that goes beyond the end (at its u4)");
        fault("two octets where there is none", Octets.form(index().put("TEXT").u4(2)), 4, 28);
        fault("one octet too many", Octets.form(index().put("TEXT").u4(4).u1(1, 2, 0)), 4, 28);
        fault("of the second", Octets.form(index().piece("TEXT", Octets.of(1)).put("TEXT").u4(4).u1(1, 2)), 4, 38);
        fault("of RIdx", Octets.form(new Octets().put("RIdx").u4(6).u4(0)), 4, 16);
        fault("of RIdx, which has none", Octets.form(new Octets().put("RIdx").u4(4)), 4, 16);
        fits("up to the end", Octets.form(index().put("TEXT").u4(4).u1(1, 2, 3, 4)), 1);
    }

    private static void oddOctetBeyondTheEnd() {
        due.promise(4, "4 a DATA (with its odd octet) that goes beyond the end (at its u4)");
        fault("of one octet", Octets.form(index().put("TEXT").u4(1).u1(1)), 4, 28);
        fault("of three octets", Octets.form(index().put("TEXT").u4(3).u1(1, 2, 3)), 4, 28);
        fault("of RIdx", Octets.form(new Octets().put("RIdx").u4(5).u4(0).u1(0)), 4, 16);
        fits("it is there", Octets.form(index().put("TEXT").u4(3).u1(1, 2, 3, 0)), 1);
    }

    private static void lengthsThatWrap() {
        due.promise(4, "4 a DATA that goes beyond the end: u4 without a sign");
        long[] lengths = {0x7FFFFFFFL, 0x7FFFFFFEL, 0x80000000L, 0x80000002L, 0xFFFFFFF8L, 0xFFFFFFFEL, 0xFFFFFFFFL,
            0x7FFFFFDFL, 0x01000002L, 65538};
        for (long length : lengths) {
            fault("of " + length, Octets.form(index().put("TEXT").u4(length).u1(1, 2)), 4, 28);
            fault("RIdx of " + length, Octets.form(new Octets().put("RIdx").u4(length).u4(0)), 4, 16);
        }
    }

    private static void oddOctetNotZero() {
        due.promise(4, "5 an odd octet that is not 0");
        int[] wrong = {1, 127, 128, 255};
        for (int octet : wrong) {
            fault("of " + octet, Octets.form(index().put("TEXT").u4(3).u1(1, 2, 3, octet)), 5, 35);
            fault("ahead of another chunk", Octets.form(index().put("TEXT").u4(1).u1(1, octet).piece("TEXT", Octets.of())), 5, 33);
            fault("RIdx's own", Octets.form(new Octets().put("RIdx").u4(5).u4(0).u1(0, octet)), 5, 25);
        }
        fits("of 0", Octets.form(index().put("TEXT").u4(3).u1(1, 2, 3, 0)), 1);
        fits("none where they are even", Octets.form(index().put("TEXT").u4(4).u1(1, 2, 3, 4)), 1);
    }

    private static void indexLength() {
        due.promise(4, "6 RIdx's DATA is not 4 and 12 n octets (at its u4)");
        for (int n = 0; n < 4; n++) {
            fault(n + " octets", Octets.form(new Octets().piece("RIdx", new Octets().zeros(n))), 6, 16);
        }
        fault("5 octets", Octets.form(new Octets().piece("RIdx", new Octets().zeros(5))), 6, 16);
        fault("n of 1 with none", Octets.form(new Octets().piece("RIdx", new Octets().u4(1))), 6, 16);
        fault("n of 0 with one", Octets.form(new Octets().piece("RIdx", new Octets().zeros(16))), 6, 16);
        Octets one = entry("Data", 1, 36);
        fault("an octet less", Octets.form(new Octets().piece("RIdx", new Octets().u4(1).put(first(one.bytes(), 11)))), 6, 16);
        fault("an octet more", Octets.form(new Octets().piece("RIdx", new Octets().u4(1).put(one).u1(0))), 6, 16);
        fault("n of 2 with one", Octets.form(new Octets().piece("RIdx", new Octets().u4(2).put(one))), 6, 16);
        fits("n of 1 with one", Octets.form(indexOf(one).piece("TEXT", Octets.of())), 1);
    }

    private static void indexCountThatWraps() {
        due.promise(4, "6 RIdx's DATA is not 4 and 12 n octets: u4 without a sign");
        // 12 n is a multiple of 2 to the power of 32 in the first ones, and 12 more in the others.
        long[] none = {0x40000000L, 0x80000000L, 0xC0000000L, 0xFFFFFFFFL, 0x15555555L};
        for (long n : none) {
            fault("n of " + n, Octets.form(new Octets().piece("RIdx", new Octets().u4(n))), 6, 16);
        }
        long[] one = {0x40000001L, 0x80000001L, 0xC0000001L};
        for (long n : one) {
            Octets data = new Octets().u4(n).put(entry("Data", 1, 36));
            fault("n of " + n, Octets.form(new Octets().piece("RIdx", data).piece("TEXT", Octets.of())), 6, 16);
        }
    }

    /** With one ENTRY the CHUNKS stand at 36 and 48, with each one more 12 octets further on. */
    private static Octets withEntries(Octets entries) {
        return Octets.form(indexOf(entries).piece("TEXT", Octets.of(1, 2, 3)).piece("BINA", Octets.of()));
    }

    private static void noUse() {
        due.promise(4, "7 a USE that is none (at the octet)");
        String[] wrong = {"pict", "Snd\0", "Snd", "data", "exec", "Pic ", "TEXT", "RIdx", "\0\0\0\0", "    "};
        for (String use : wrong) {
            String four = use.length() == 3 ? use + "\1" : use;
            fault(four, withEntries(entry(four, 1, 36)), 7, 24);
            fault(four + " as the second", withEntries(entry("Pict", 1, 48).put(entry(four, 1, 48))), 7, 36);
        }
        Octets all = entry("Pict", 1, 72).put(entry("Snd ", 1, 72)).put(entry("Data", 1, 72)).put(entry("Exec", 1, 84));
        fits("all four", withEntries(all), 2);
    }

    private static void noPlace() {
        due.promise(4, "8 a PLACE that is not that of a PIECE behind RIdx (at the octet)");
        // FORM, IFRS, RIdx and its DATA; beside a KIND; a CHUNK's DATA; the end, and beyond it.
        long[] wrong = {0, 4, 8, 12, 16, 20, 24, 35, 37, 40, 44, 47, 49, 56, 57, 6000};
        for (long place : wrong) {
            fault("of " + place, withEntries(entry("Pict", 1, place)), 8, 32);
        }
        fault("of the second", withEntries(entry("Pict", 1, 48).put(entry("Pict", 2, 12))), 8, 44);
        fault("no chunks at all", Octets.form(indexOf(entry("Pict", 1, 36))), 8, 32);
        fits("the first one's", withEntries(entry("Pict", 1, 36)), 2);
        fits("the last one's", withEntries(entry("Pict", 1, 48)), 2);
    }

    private static void placeThatWraps() {
        due.promise(4, "8 a PLACE that is not that of a PIECE behind RIdx: u4 without a sign");
        long[] wrong = {4294967295L, 0x80000024L, 0xFFFFFFFEL, 65536 + 36, 0x01000024L};
        for (long place : wrong) {
            fault("of " + place, withEntries(entry("Pict", 1, place)), 8, 32);
        }
    }

    private static void sameUseAndNumber() {
        due.promise(4, "9 USE and NUMBER that an ENTRY before has (at the USE)");
        fault("the one before", withEntries(entry("Pict", 1, 48).put(entry("Pict", 1, 60))), 9, 36);
        fault("the first of three", withEntries(entry("Pict", 1, 60).put(entry("Snd ", 1, 60)).put(entry("Pict", 1, 72))), 9, 48);
        fault("of 0", withEntries(entry("Exec", 0, 48).put(entry("Exec", 0, 48))), 9, 36);
        fault("of the greatest", withEntries(entry("Data", 4294967295L, 48).put(entry("Data", 4294967295L, 48))), 9, 36);
        fits("another USE", withEntries(entry("Pict", 1, 48).put(entry("Snd ", 1, 48))), 2);
        long[] others = {0, 2, 257, 65537, 0x01000001L, 0x80000001L, 4294967295L};
        for (long number : others) {
            fits("another NUMBER " + number, withEntries(entry("Pict", 1, 48).put(entry("Pict", number, 48))), 2);
        }
    }

    private static Octets chunks(int n) {
        Octets pieces = index();
        for (int i = 0; i < n; i++) {
            pieces.piece("TEXT", i % 2 == 0 ? Octets.of(i) : Octets.of());
        }
        return pieces;
    }

    private static final int CHUNK_61_AT = 24 + 30 * 10 + 30 * 8;

    private static void chunk61() {
        due.promise(4, "10 too much: the 61st CHUNK (at its KIND)");
        fits("60", Octets.form(chunks(60)), 60);
        fault("61", Octets.form(chunks(61)), 10, CHUNK_61_AT);
        fault("62", Octets.form(chunks(62)), 10, CHUNK_61_AT);
        fault("61 empty ones", Octets.form(indexOf(new Octets()).put("TEXT\0\0\0\0".repeat(61))), 10, 24 + 480);
    }

    /** ENTRIES 0 .. n - 1 that mean the one CHUNK, and perhaps a last one. */
    private static Octets entries(int n, Octets last) {
        int place = 24 + 12 * n + last.length();
        Octets entries = new Octets();
        for (int i = 0; i < n; i++) {
            entries.put(entry("Data", i, place));
        }
        return Octets.form(indexOf(entries.put(last)).piece("TEXT", Octets.of()));
    }

    private static final int ENTRY_41_AT = 24 + 480;

    private static void entry41() {
        due.promise(4, "10 too much: the 41st ENTRY (at its USE)");
        BlorbRows x = new BlorbRows();
        due.is("read() of 40", Calls.read(x, entries(40, new Octets())), 1);
        due.is("told(1)", x.told(1), 40);
        due.is("the last one's number", x.entry(39, 1), 39);
        due.is("how many mean it", x.chunk(0, 3), 40);
        fault("41", entries(41, new Octets()), 10, ENTRY_41_AT);
        fault("42", entries(42, new Octets()), 10, ENTRY_41_AT);
        fault("100", entries(100, new Octets()), 10, ENTRY_41_AT);
    }

    private static void orderOfTheHead() {
        due.promise(4, "FAULTS, the first that is met, from the left: FORM, u4, IFRS");
        fault("FORM ahead of its u4", Octets.text("XORM").u4(1).put("IFRS").put(index()), 2, 0);
        fault("FORM ahead of IFRS", Octets.text("XORM").u4(16).put("IFRX").put(index()), 2, 0);
        fault("u4 ahead of IFRS", Octets.text("FORM").u4(15).put("IFRX").put(index()), 3, 4);
        fault("u4 ahead of RIdx", Octets.text("FORM").u4(15).put("IFRS").piece("TEXT", new Octets().u4(0)), 3, 4);
        fault("IFRS ahead of RIdx", Octets.text("FORM").u4(16).put("IFRX").piece("TEXT", new Octets().u4(0)), 2, 8);
        fault("IFRS ahead of the end", Octets.text("FORM").u4(4).put("IFRX"), 2, 8);
    }

    private static void orderOfAPiece() {
        due.promise(4, "Of a PIECE in the order 1, 2, 10, 4, 5");
        fault("1 ahead of 2", Octets.form(index().u1(1, 2, 3)), 1, 27);
        fault("1 ahead of 2, a whole KIND", Octets.form(index().u1(1, 2, 3, 4, 0, 0, 0)), 1, 31);
        fault("1 ahead of 2, of RIdx", Octets.form(Octets.text("TEXT")), 1, 16);
        fault("2 ahead of 4", Octets.form(index().put("TEX\1").u4(99)), 2, 24);
        fault("2 ahead of 4, RIdx", Octets.form(index().put("RIdx").u4(99)), 2, 24);
        fault("2 ahead of 4, the first", Octets.form(Octets.text("TEXT").u4(99)), 2, 12);
        fault("2 ahead of 5", Octets.form(index().put("TEX\1").u4(1).u1(1, 1)), 2, 24);
        fault("1 ahead of 10", Octets.form(chunks(60).put("TEXT")), 1, CHUNK_61_AT + 4);
        fault("2 ahead of 10", Octets.form(chunks(60).piece("TEX\1", Octets.of())), 2, CHUNK_61_AT);
        fault("2 ahead of 10, RIdx", Octets.form(chunks(60).put(index())), 2, CHUNK_61_AT);
        fault("10 ahead of 4", Octets.form(chunks(60).put("TEXT").u4(99)), 10, CHUNK_61_AT);
        fault("10 ahead of 5", Octets.form(chunks(60).put("TEXT").u4(1).u1(1, 1)), 10, CHUNK_61_AT);
    }

    private static void orderOfPieces() {
        due.promise(4, "from the left: PIECES one behind the other");
        Octets odd = Octets.text("TEXT").u4(1).u1(1, 1);
        fault("5 of the first ahead of 2 of the second", Octets.form(index().put(odd).put("TEX\1").u4(0)), 5, 33);
        fault("5 of RIdx ahead of 2 of a chunk",
            Octets.form(Octets.text("RIdx").u4(5).u4(0).u1(0, 9).put("TEX\1").u4(0)), 5, 25);
        fault("4 of the first ahead of all behind it", Octets.form(index().put("TEXT").u4(99).put(odd)), 4, 28);
        fault("2 of the first ahead of 1 of the second", Octets.form(index().put("TEX\1").u4(0).put("TE")), 2, 24);
        fault("4 of the 60th ahead of 10", Octets.form(chunks(59).put("TEXT").u4(99).piece("TEXT", Octets.of())), 4, CHUNK_61_AT - 4);
        fault("10 of the 61st ahead of 2 of the 62nd", Octets.form(chunks(61).piece("TEX\1", Octets.of())), 10, CHUNK_61_AT);
    }

    private static void orderOfAnEntry() {
        due.promise(4, "of an ENTRY 10, 7, 9, 8");
        fault("10 ahead of 7", entries(40, entry("Nope", 1, 1)), 10, ENTRY_41_AT);
        fault("10 ahead of 9", entries(40, entry("Data", 1, 516)), 10, ENTRY_41_AT);
        fault("10 ahead of 8", entries(40, entry("Data", 99, 1)), 10, ENTRY_41_AT);
        fault("7 ahead of 8", withEntries(entry("Nope", 1, 1)), 7, 24);
        fault("9 ahead of 8", withEntries(entry("Pict", 1, 48).put(entry("Pict", 1, 1))), 9, 36);
        fault("7 of the 40th", entries(39, entry("Nope", 1, 504)), 7, ENTRY_41_AT - 12);
        fault("9 of the 40th", entries(39, entry("Data", 38, 504)), 9, ENTRY_41_AT - 12);
        fault("8 of the 40th", entries(39, entry("Data", 39, 505)), 8, ENTRY_41_AT - 4);
    }

    private static void orderOfEntries() {
        due.promise(4, "FAULTS, the first that is met, from the left: then what RIdx has");
        fault("8 of the first ahead of 7 of the second", withEntries(entry("Pict", 1, 1).put(entry("Nope", 1, 48))), 8, 32);
        fault("8 of the first ahead of 9 of the second", withEntries(entry("Pict", 1, 1).put(entry("Pict", 1, 48))), 8, 32);
        fault("7 of the first ahead of 8 of the second", withEntries(entry("Nope", 1, 48).put(entry("Pict", 1, 1))), 7, 24);
        fault("8 of the 40th ahead of 10 of the 41st",
            Octets.form(indexOf(only(39).put(entry("Data", 39, 1)).put(entry("Data", 40, 516))).piece("TEXT", Octets.of())),
            8, ENTRY_41_AT - 4);
    }

    /** n ENTRIES that mean a CHUNK at 516. */
    private static Octets only(int n) {
        Octets entries = new Octets();
        for (int i = 0; i < n; i++) {
            entries.put(entry("Data", i, 516));
        }
        return entries;
    }

    private static void indexLengthAheadOfEntries() {
        due.promise(4, "6 comes ahead of all ENTRIES");
        fault("6 ahead of 7", Octets.form(new Octets().piece("RIdx", new Octets().u4(2).put(entry("Nope", 1, 1)))), 6, 16);
        fault("6 ahead of 8", Octets.form(new Octets().piece("RIdx", new Octets().u4(0).put(entry("Pict", 1, 1)))), 6, 16);
        fault("6 ahead of 10", Octets.form(new Octets().piece("RIdx", new Octets().u4(99).put(only(41))).piece("TEXT", Octets.of())), 6, 16);
    }

    private static void piecesAheadOfTheIndex() {
        due.promise(4, "PIECES one behind the other, then what RIdx has");
        Octets wrongEntry = indexOf(entry("Nope", 1, 1));
        fault("5 of a chunk ahead of 7", Octets.form(wrongEntry.put("TEXT").u4(1).u1(1, 1)), 5, 45);
        Octets wrongLength = new Octets().piece("RIdx", Octets.of());
        fault("4 of a chunk ahead of 6", Octets.form(wrongLength.put("TEXT").u4(9)), 4, 24);
        Octets wrongCount = new Octets().piece("RIdx", new Octets().u4(7));
        fault("1 of a chunk ahead of 6", Octets.form(wrongCount.put("TEXT")), 1, 28);
        Octets again = new Octets().piece("RIdx", new Octets().u4(7));
        fault("10 of a chunk ahead of 6", Octets.form(again.put("TEXT\0\0\0\0".repeat(61))), 10, 24 + 480);
        Octets second = new Octets().piece("RIdx", new Octets().u4(7));
        fault("2 of a chunk ahead of 6", Octets.form(second.put(index())), 2, 24);
    }
}
