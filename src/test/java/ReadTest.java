/** Promises 4 read, 5 place: a method for each sentence on a FILE that is well formed, and on FAULTS 1 to 10. */
public final class ReadTest {
    private static final Due due = new Due();
    private static final int NONE = BlorbRows.NONE;
    private static final int TEXT = Octets.kind("TEXT");
    private static final int DATA = Octets.kind("Data");
    private static final int PICT = Octets.kind("Pict");

    public static void main(String[] args) {
        tapeIsEmptyThen();
        houseIsThat();
        othersAreTheChunksInOrder();
        entriesInOrder();
        answersHowManyChunks();
        wholeTapeIsRead();
        answersTheFault();
        houseStays();
        placeOfAFault();
        placeWhenThereWasNoFault();
        placeWhenThereWasNoRead();
        placeOfTheLatestRead();
        due.end("ReadTest");
    }

    private static Octets indexOf(Octets entries) {
        return new Octets().piece("RIdx", new Octets().u4(entries.length() / 12).put(entries));
    }

    private static Octets entry(String use, long number, long place) {
        return Octets.text(use).u4(number, place);
    }

    private static Octets twoChunks() {
        // RIdx ends at 24 + 36; the CHUNKS stand at 60 and 72.
        Octets entries = entry("Pict", 5, 72).put(entry("Snd ", 5, 60)).put(entry("Exec", 4294967295L, 72));
        return Octets.form(indexOf(entries).piece("OGGV", Octets.of(9, 8, 7)).piece("Rect", new Octets().u4(3, 4)));
    }

    /** Everything is well formed but the last ENTRY's PLACE. */
    private static Octets lateFault() {
        Octets entries = entry("Data", 1, 60).put(entry("Data", 2, 60)).put(entry("Data", 3, 61));
        return Octets.form(indexOf(entries).piece("TEXT", Octets.of(1)));
    }

    private static void tapeIsEmptyThen() {
        due.promise(4, "THE TAPE (it is empty then)");
        BlorbRows x = new BlorbRows();
        Calls.read(x, twoChunks());
        due.is("told(3) behind a good one", x.told(3), 0);
        Calls.read(x, lateFault());
        due.is("told(3) behind a fault", x.told(3), 0);
        due.is("feed(1)", x.feed(1, 1), 1);
    }

    private static void houseIsThat() {
        due.promise(4, "THE HOUSE is that");
        BlorbRows x = new BlorbRows();
        Calls.add(x, "TEXT", Octets.of(1));
        Calls.add(x, "TEXT", Octets.of(2));
        Calls.add(x, "RelN", Octets.of(0, 7));
        x.mean(DATA, 1, 0);
        due.is("read()", Calls.read(x, twoChunks()), 2);
        due.is("chunks", x.told(0), 2);
        due.is("entries", x.told(1), 3);
        due.is("octets", x.told(2), 11);
        due.is("an entry that was there", x.find(DATA, 1), NONE);
        due.is("a chunk that was there", x.release(), NONE);
        due.is("read() of no chunks", Calls.read(x, Octets.form(indexOf(new Octets()))), 0);
        due.is("no chunks", x.told(0), 0);
        due.is("no entries", x.told(1), 0);
        due.is("no octets", x.told(2), 0);
    }

    private static void othersAreTheChunksInOrder() {
        due.promise(4, "The others are THE HOUSE's CHUNKS, in order");
        BlorbRows x = new BlorbRows();
        Calls.read(x, twoChunks());
        due.is("kind of 0", x.chunk(0, 0), Octets.kind("OGGV"));
        due.is("kind of 1", x.chunk(1, 0), Octets.kind("Rect"));
        due.is("length of 0, without its odd octet", x.chunk(0, 1), 3);
        due.is("length of 1", x.chunk(1, 1), 8);
        due.is("the first octet", x.octet(0, 0), 9);
        due.is("the last octet of 0", x.octet(0, 2), 7);
        due.is("the last octet of 1", x.octet(1, 7), 4);
    }

    private static void entriesInOrder() {
        due.promise(4, "the n are its ENTRIES, in order");
        BlorbRows x = new BlorbRows();
        Calls.read(x, twoChunks());
        long[][] want = {{PICT, 5, 1}, {Octets.kind("Snd "), 5, 0}, {Octets.kind("Exec"), 4294967295L, 1}};
        for (int i = 0; i < 3; i++) {
            for (int what = 0; what < 3; what++) {
                due.is("entry(" + i + ", " + what + ")", x.entry(i, what), want[i][what]);
            }
        }
    }

    private static void answersHowManyChunks() {
        due.promise(4, "how many CHUNKS");
        int[] numbers = {0, 1, 2, 59, 60};
        for (int n : numbers) {
            Octets pieces = indexOf(new Octets());
            for (int k = 0; k < n; k++) {
                pieces.piece("TEXT", Octets.of(k));
            }
            BlorbRows x = new BlorbRows();
            due.is("read() of " + n, Calls.read(x, Octets.form(pieces)), n);
            due.is("told(0) of " + n, x.told(0), n);
            due.is("the last one's octet", n == 0 ? 0 : x.octet(n - 1, 0), n == 0 ? 0 : n - 1);
        }
    }

    private static void wholeTapeIsRead() {
        due.promise(4, "THE TAPE has 6000 octets at most");
        BlorbRows x = new BlorbRows();
        Calls.fillTape(x, 5968);
        x.add(TEXT);
        due.is("write()", x.write(), 6000);
        due.is("back()", x.back(), 6000);
        due.is("read() of 6000 octets", x.read(), 1);
        due.is("its length", x.chunk(0, 1), 5968);
        due.is("told(2)", x.told(2), 5968);
    }

    private static void answersTheFault() {
        due.promise(4, "-10 less its FAULT");
        due.is("FAULT 1", new BlorbRows().read(), -11);
        due.is("FAULT 8", Calls.read(new BlorbRows(), lateFault()), -18);
        Octets many = indexOf(new Octets());
        for (int k = 0; k < 61; k++) {
            many.piece("TEXT", Octets.of());
        }
        due.is("FAULT 10", Calls.read(new BlorbRows(), Octets.form(many)), -20);
    }

    private static void houseStays() {
        due.promise(4, "THE HOUSE stays");
        BlorbRows x = new BlorbRows();
        Calls.read(x, twoChunks());
        x.write();
        due.is("a late fault", Calls.read(x, lateFault()), -18);
        due.is("an empty tape", x.read(), -11);
        due.is("chunks", x.told(0), 2);
        due.is("entries", x.told(1), 3);
        due.is("octets", x.told(2), 11);
        due.is("an octet", x.octet(0, 0), 9);
        due.is("a kind", x.chunk(0, 0), Octets.kind("OGGV"));
        due.is("what is meant", x.find(PICT, 5), 1);
        due.is("what the faulty one means", x.find(DATA, 1), NONE);
        due.is("OUT", x.told(4), twoChunks().length());
    }

    private static void placeOfAFault() {
        due.promise(5, "Where the FAULT of the latest read() was");
        BlorbRows x = new BlorbRows();
        Calls.read(x, lateFault());
        due.is("place()", x.place(), 24 + 24 + 8);
        due.is("place() again", x.place(), 24 + 24 + 8);
        x.read();
        due.is("place() of an empty tape", x.place(), 0);
    }

    private static void placeWhenThereWasNoFault() {
        due.promise(5, "NONE: it had none");
        BlorbRows x = new BlorbRows();
        x.read();
        Calls.read(x, twoChunks());
        due.is("place()", x.place(), NONE);
    }

    private static void placeWhenThereWasNoRead() {
        due.promise(5, "NONE: there was none");
        BlorbRows x = new BlorbRows();
        due.is("place() of a new object", x.place(), NONE);
        x.feed(3, 1);
        x.add(TEXT);
        x.write();
        x.back();
        due.is("place() behind other calls", x.place(), NONE);
    }

    private static void placeOfTheLatestRead() {
        due.promise(5, "the latest read()");
        BlorbRows x = new BlorbRows();
        x.feed(3, 1);
        x.read();
        due.is("the first", x.place(), 3);
        x.feed(5, 1);
        x.add(TEXT);
        x.write();
        x.back();
        due.is("other calls do not count", x.place(), 3);
        x.cut(7);
        x.read();
        due.is("the second", x.place(), 7);
        Calls.read(x, twoChunks());
        due.is("the third", x.place(), NONE);
        x.read();
        due.is("the fourth", x.place(), 0);
    }
}
