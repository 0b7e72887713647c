/** Promises 1 (a new object), 2 feed, 3 cut, 6 told: a method for each sentence that names an edge. */
public final class TapeTest {
    private static final Due due = new Due();
    private static final int BAD = BlorbRows.BAD;
    private static final int NONE = BlorbRows.NONE;
    private static final int FULL = BlorbRows.FULL;
    private static final int TEXT = Octets.kind("TEXT");
    private static final int PICT = Octets.kind("Pict");

    public static void main(String[] args) {
        newHasNoChunks();
        newHasNoEntries();
        newHasAnEmptyTape();
        newHasAnEmptyOut();
        newSharesNothing();
        feedTakesOneToEight();
        feedTakesTheLowestOctets();
        feedPutsTheHighestFirst();
        feedComesBehind();
        feedAnswersHowMany();
        feedOfWrongNumbers();
        feedUpToTheBound();
        feedBeyondTheBound();
        feedIsBadAheadOfFull();
        feedAgainWhenThereIsRoom();
        cutKeepsTheFirst();
        cutToNothing();
        cutOfNothing();
        cutAnswersHowManyWent();
        cutBeyondTheTape();
        cutBelowZero();
        toldOfEach();
        toldOfTheGreatest();
        toldOfNoSuchThing();
        due.end("TapeTest");
    }

    private static void newHasNoChunks() {
        due.promise(1, "No CHUNKS");
        BlorbRows x = new BlorbRows();
        due.is("told(0)", x.told(0), 0);
        due.is("told(2)", x.told(2), 0);
        due.is("chunk(0, 0)", x.chunk(0, 0), BAD);
        due.is("octet(0, 0)", x.octet(0, 0), BAD);
        due.is("size(0, 0)", x.size(0, 0), BAD);
        due.is("sound(0, 0)", x.sound(0, 0), BAD);
        due.is("front()", x.front(), NONE);
        due.is("release()", x.release(), NONE);
        due.is("colour(0)", x.colour(0), NONE);
        due.is("change(0)", x.change(0), BAD);
        due.is("remove(0)", x.remove(0), BAD);
        due.is("mean(Pict, 0, 0)", x.mean(PICT, 0, 0), BAD);
        due.is("the first add", x.add(TEXT), 0);
    }

    private static void newHasNoEntries() {
        due.promise(1, "no ENTRIES");
        BlorbRows x = new BlorbRows();
        due.is("told(1)", x.told(1), 0);
        due.is("entry(0, 0)", x.entry(0, 0), BAD);
        due.is("find(Pict, 0)", x.find(PICT, 0), NONE);
        due.is("drop(Pict, 0)", x.drop(PICT, 0), NONE);
        due.is("scaled(0, 1, 1, 0)", x.scaled(0, 1, 1, 0), NONE);
        x.add(TEXT);
        due.is("the first mean", x.mean(PICT, 0, 0), 0);
    }

    private static void newHasAnEmptyTape() {
        due.promise(1, "an empty TAPE");
        BlorbRows x = new BlorbRows();
        due.is("told(3)", x.told(3), 0);
        due.is("cut(0)", x.cut(0), 0);
        due.is("add", x.add(TEXT), 0);
        due.is("what was added", x.chunk(0, 1), 0);
        due.is("read()", new BlorbRows().read(), -11);
    }

    private static void newHasAnEmptyOut() {
        due.promise(1, "an empty OUT");
        BlorbRows x = new BlorbRows();
        due.is("told(4)", x.told(4), 0);
        due.is("out(0)", x.out(0), BAD);
        due.is("back()", x.back(), 0);
    }

    private static void newSharesNothing() {
        due.promise(1, "a new object");
        BlorbRows x = new BlorbRows();
        x.feed(8, 1);
        x.add(TEXT);
        x.mean(PICT, 1, 0);
        x.write();
        x.feed(3, 1);
        x.read();
        x.feed(1, 1);
        BlorbRows y = new BlorbRows();
        for (int what = 0; what <= 4; what++) {
            due.is("told(" + what + ") beside another object", y.told(what), 0);
        }
        due.is("place() beside another object", y.place(), NONE);
        due.is("the other one's chunks", x.told(0), 1);
    }

    private static void feedTakesOneToEight() {
        due.promise(2, "n (1 .. 8)");
        for (int n = 1; n <= 8; n++) {
            due.is("feed(" + n + ", 0)", new BlorbRows().feed(n, 0), n);
        }
    }

    /** A CHUNK with what was fed. */
    private static BlorbRows fed(int n, long v) {
        BlorbRows x = new BlorbRows();
        x.feed(n, v);
        x.add(TEXT);
        return x;
    }

    private static void feedTakesTheLowestOctets() {
        due.promise(2, "The n lowest octets of v");
        for (int n = 1; n <= 8; n++) {
            BlorbRows x = fed(n, 0xF1F2F3F4F5F6F7F8L);
            due.is("how many of feed(" + n + ")", x.chunk(0, 1), n);
            for (int i = 0; i < n; i++) {
                due.is("octet " + i + " of feed(" + n + ")", x.octet(0, i), 0xF1 + 8 - n + i);
            }
        }
        due.is("feed(1, -1)", fed(1, -1).octet(0, 0), 255);
        due.is("feed(1, 256)", fed(1, 256).octet(0, 0), 0);
        due.is("feed(8, -2), the highest", fed(8, -2).octet(0, 0), 255);
        due.is("feed(8, -2), the lowest", fed(8, -2).octet(0, 7), 254);
        due.is("feed(8, least), the highest", fed(8, Long.MIN_VALUE).octet(0, 0), 128);
        due.is("feed(8, greatest), the highest", fed(8, Long.MAX_VALUE).octet(0, 0), 127);
    }

    private static void feedPutsTheHighestFirst() {
        due.promise(2, "the highest of them first");
        BlorbRows x = fed(3, 0x010203);
        due.is("first", x.octet(0, 0), 1);
        due.is("second", x.octet(0, 1), 2);
        due.is("third", x.octet(0, 2), 3);
    }

    private static void feedComesBehind() {
        due.promise(2, "come behind THE TAPE");
        BlorbRows x = new BlorbRows();
        x.feed(2, 0x0102);
        x.feed(1, 3);
        x.add(TEXT);
        due.is("fed first", x.octet(0, 0), 1);
        due.is("fed last", x.octet(0, 2), 3);
    }

    private static void feedAnswersHowMany() {
        due.promise(2, "how many it has");
        BlorbRows x = new BlorbRows();
        due.is("feed(8)", x.feed(8, 0), 8);
        due.is("feed(1)", x.feed(1, 0), 9);
        due.is("told(3)", x.told(3), 9);
    }

    private static void feedOfWrongNumbers() {
        due.promise(2, "BAD");
        BlorbRows x = new BlorbRows();
        int[] wrong = {0, 9, -1, -8, 16, Integer.MIN_VALUE, Integer.MAX_VALUE};
        for (int n : wrong) {
            due.is("feed(" + n + ", 1)", x.feed(n, 1), BAD);
        }
        due.is("the tape stays", x.told(3), 0);
    }

    private static void feedUpToTheBound() {
        due.promise(2, "THE TAPE has 6000 octets at most");
        BlorbRows x = new BlorbRows();
        Calls.fillTape(x, 5992);
        due.is("told(3)", x.told(3), 5992);
        due.is("feed(8) where 8 go", x.feed(8, 0x0102030405060708L), 6000);
        due.is("add of it", x.add(TEXT), 0);
        due.is("how many", x.chunk(0, 1), 6000);
        due.is("the last octet", x.octet(0, 5999), 8);
        due.is("the first of the last eight", x.octet(0, 5992), 1);
    }

    private static void feedBeyondTheBound() {
        due.promise(2, "FULL");
        for (int n = 1; n <= 8; n++) {
            BlorbRows x = new BlorbRows();
            Calls.fillTape(x, 6001 - n);
            due.is("feed(" + n + ") where one less goes", x.feed(n, -1), FULL);
            due.is("the tape stays", x.told(3), 6001 - n);
        }
    }

    private static void feedIsBadAheadOfFull() {
        due.promise(2, "REFUSALS are answers, the first that fits");
        BlorbRows x = new BlorbRows();
        Calls.fillTape(x, 6000);
        due.is("feed(9)", x.feed(9, 0), BAD);
        due.is("feed(0)", x.feed(0, 0), BAD);
        due.is("feed(1)", x.feed(1, 0), FULL);
    }

    private static void feedAgainWhenThereIsRoom() {
        due.promise(2, "FULL");
        BlorbRows x = new BlorbRows();
        Calls.fillTape(x, 6000);
        due.is("feed(1)", x.feed(1, 9), FULL);
        due.is("cut(5999)", x.cut(5999), 1);
        due.is("feed(2)", x.feed(2, 9), FULL);
        due.is("feed(1) again", x.feed(1, 9), 6000);
    }

    private static void cutKeepsTheFirst() {
        due.promise(3, "THE TAPE keeps its first n octets");
        BlorbRows x = new BlorbRows();
        x.feed(8, 0x0102030405060708L);
        x.cut(3);
        due.is("told(3)", x.told(3), 3);
        due.is("fed behind", x.feed(1, 77), 4);
        x.add(TEXT);
        int[] want = {1, 2, 3, 77};
        for (int i = 0; i < want.length; i++) {
            due.is("octet " + i, x.octet(0, i), want[i]);
        }
    }

    private static void cutToNothing() {
        due.promise(3, "THE TAPE keeps its first n octets");
        BlorbRows x = new BlorbRows();
        x.feed(8, 1);
        due.is("cut(0)", x.cut(0), 8);
        due.is("told(3)", x.told(3), 0);
        due.is("cut(0) of none", x.cut(0), 0);
    }

    private static void cutOfNothing() {
        due.promise(3, "how many went");
        BlorbRows x = new BlorbRows();
        x.feed(8, 1);
        due.is("cut(8) of 8", x.cut(8), 0);
        due.is("told(3)", x.told(3), 8);
    }

    private static void cutAnswersHowManyWent() {
        due.promise(3, "how many went");
        BlorbRows x = new BlorbRows();
        x.feed(8, 1);
        due.is("cut(7) of 8", x.cut(7), 1);
        due.is("cut(2) of 7", x.cut(2), 5);
        BlorbRows y = new BlorbRows();
        Calls.fillTape(y, 6000);
        due.is("cut(1) of 6000", y.cut(1), 5999);
    }

    private static void cutBeyondTheTape() {
        due.promise(3, "BAD");
        BlorbRows x = new BlorbRows();
        due.is("cut(1) of none", x.cut(1), BAD);
        x.feed(8, 1);
        due.is("cut(9) of 8", x.cut(9), BAD);
        due.is("cut(6000) of 8", x.cut(6000), BAD);
        due.is("cut(greatest)", x.cut(Integer.MAX_VALUE), BAD);
        due.is("the tape stays", x.told(3), 8);
    }

    private static void cutBelowZero() {
        due.promise(3, "BAD");
        BlorbRows x = new BlorbRows();
        x.feed(8, 1);
        due.is("cut(-1)", x.cut(-1), BAD);
        due.is("cut(least)", x.cut(Integer.MIN_VALUE), BAD);
        due.is("the tape stays", x.told(3), 8);
    }

    private static void toldOfEach() {
        due.promise(6, "0 CHUNKS, 1 ENTRIES, 2 octets of all DATA, 3 octets of THE TAPE, 4 of OUT");
        BlorbRows x = new BlorbRows();
        Calls.add(x, "TEXT", Octets.of(1, 2, 3));
        Calls.add(x, "TEXT", Octets.of(4, 5));
        Calls.add(x, "TEXT", Octets.of());
        x.mean(Octets.kind("Data"), 1, 0);
        x.feed(4, 0);
        x.write();
        due.is("told(0)", x.told(0), 3);
        due.is("told(1)", x.told(1), 1);
        due.is("told(2), without odd octets", x.told(2), 5);
        due.is("told(3)", x.told(3), 4);
        due.is("told(4)", x.told(4), 24 + 12 + 12 + 10 + 8);
        x.remove(1);
        due.is("told(2) when one went", x.told(2), 3);
        due.is("told(4), not written again", x.told(4), 66);
    }

    private static void toldOfTheGreatest() {
        due.promise(6, "up to 60 CHUNKS, 12000 octets of DATA in all, up to 40 ENTRIES, 6000 octets at most");
        BlorbRows x = Calls.greatestHouse();
        x.write();
        due.is("told(0)", x.told(0), 60);
        due.is("told(1)", x.told(1), 40);
        due.is("told(2)", x.told(2), 12000);
        due.is("told(4)", x.told(4), 13044);
        BlorbRows y = new BlorbRows();
        Calls.fillTape(y, 6000);
        due.is("told(3)", y.told(3), 6000);
    }

    private static void toldOfNoSuchThing() {
        due.promise(6, "BAD");
        BlorbRows x = new BlorbRows();
        int[] wrong = {-1, 5, 6, Integer.MIN_VALUE, Integer.MAX_VALUE};
        for (int what : wrong) {
            due.is("told(" + what + ")", x.told(what), BAD);
        }
    }
}
