/** Promises 22 write, 23 out, 24 back. */
public final class WriteTest {
    private static final Due due = new Due();
    private static final int BAD = BlorbRows.BAD;

    public static void main(String[] args) {
        emptyHouse();
        everyOctet();
        outStaysUntilWritten();
        readAgain();
        greatest();
        back();
        backFull();
        due.end("WriteTest");
    }

    private static void outIs(String name, BlorbRows x, Octets want) {
        byte[] row = want.bytes();
        due.is(name + ": length", x.told(4), row.length);
        for (int i = 0; i < row.length; i++) {
            due.is(name + ": octet " + i, x.out(i), row[i] & 255);
        }
        due.is(name + ": behind", x.out(row.length), BAD);
    }

    private static void emptyHouse() {
        BlorbRows x = new BlorbRows();
        due.is("nothing yet", x.told(4), 0);
        due.is("write()", x.write(), 24);
        outIs("empty", x, Octets.text("FORM").u4(16).put("IFRS").put("RIdx").u4(4).u4(0));
        int[] wrong = {-1, 24, 25, 13084, Integer.MAX_VALUE, Integer.MIN_VALUE};
        for (int i : wrong) {
            due.is("out(" + i + ")", x.out(i), BAD);
        }
    }

    private static void everyOctet() {
        BlorbRows x = new BlorbRows();
        Calls.add(x, "TEXT", Octets.of(255, 1, 128));
        Calls.add(x, "BINA", Octets.of());
        Calls.add(x, "Rect", new Octets().u4(1, 4294967295L));
        x.mean(Octets.kind("Pict"), 4294967295L, 2);
        x.mean(Octets.kind("Data"), 1, 0);
        x.feed(2, 9);
        // RIdx ends at 48; the CHUNKS stand at 48, 60, 68.
        Octets index = new Octets().u4(2).put("Pict").u4(4294967295L, 68).put("Data").u4(1, 48);
        Octets want = Octets.form(new Octets().piece("RIdx", index).piece("TEXT", Octets.of(255, 1, 128))
            .piece("BINA", Octets.of()).piece("Rect", new Octets().u4(1, 4294967295L)));
        due.is("write()", x.write(), want.length());
        outIs("three chunks", x, want);
        due.is("the tape stays", x.told(3), 2);
        due.is("chunk(2, 2) is its place", x.chunk(2, 2), 68);
        due.is("chunks stay", x.told(0), 3);
    }

    private static void outStaysUntilWritten() {
        BlorbRows x = new BlorbRows();
        Calls.add(x, "TEXT", Octets.of(1, 2, 3));
        x.write();
        x.remove(0);
        due.is("OUT stays", x.told(4), 36);
        due.is("its octet", x.out(33), 2);
        due.is("a shorter one", x.write(), 24);
        due.is("the longer one is gone", x.out(24), BAD);
        x.read();
        due.is("read() leaves OUT", x.told(4), 24);
    }

    private static void readAgain() {
        BlorbRows x = new BlorbRows();
        for (int k = 0; k < 20; k++) {
            Calls.add(x, "TEXT", new Octets().zeros(k).u1(k));
            x.mean(Octets.kind("Data"), 100 - k, 19 * k % (k + 1));
        }
        int length = x.write();
        due.is("back()", x.back(), length);
        due.is("read()", x.read(), 20);
        due.is("entries", x.told(1), 20);
        for (int k = 0; k < 20; k++) {
            due.is("its octet " + k, x.octet(k, k), k);
            due.is("what is meant " + k, x.find(Octets.kind("Data"), 100 - k), 19 * k % (k + 1));
        }
        due.is("written again", x.write(), length);
    }

    /** 60 CHUNKS with 12000 octets, every DATA odd in number, and 40 ENTRIES: no OUT is longer. */
    private static void greatest() {
        BlorbRows x = new BlorbRows();
        Calls.fillTape(x, 5831);
        x.add(Octets.kind("TEXT"));
        x.write();
        x.back();
        x.cut(5863);
        x.add(Octets.kind("TEXT"));
        for (int k = 2; k < 59; k++) {
            Calls.add(x, "TEXT", Octets.of(k, k, k, k, k));
        }
        Calls.add(x, "TEXT", new Octets().zeros(20).u1(255));
        for (int i = 0; i < 40; i++) {
            x.mean(Octets.kind("Data"), i, 59 - i);
        }
        due.is("chunks", x.told(0), 60);
        due.is("entries", x.told(1), 40);
        due.is("octets", x.told(2), 12000);
        due.is("write()", x.write(), 13044);
        due.is("the first octet", x.out(0), 'F');
        due.is("the first place, high", x.out(34), 13014 >> 8);
        due.is("the first place, low", x.out(35), 13014 & 255);
        due.is("the last octet of DATA", x.out(13042), 255);
        due.is("the odd octet", x.out(13043), 0);
        due.is("behind", x.out(13044), BAD);
        due.is("back()", x.back(), BlorbRows.FULL);
        due.is("write() again", x.write(), 13044);
    }

    private static void back() {
        BlorbRows x = new BlorbRows();
        x.feed(3, 7);
        due.is("of an empty OUT", x.back(), 0);
        due.is("the tape is empty then", x.told(3), 0);
        Calls.add(x, "TEXT", Octets.of(1, 2));
        x.write();
        x.feed(3, 7);
        due.is("in the place of the tape", x.back(), 34);
        due.is("the tape's length", x.told(3), 34);
        due.is("OUT stays", x.told(4), 34);
        due.is("OUT's octets stay", x.out(33), 2);
        due.is("fed behind", x.feed(1, 99), 35);
        x.add(Octets.kind("TEXT"));
        due.is("the first octet", x.octet(1, 0), 'F');
        due.is("the last octet", x.octet(1, 33), 2);
        due.is("what was fed", x.octet(1, 34), 99);
        due.is("again", x.back(), 34);
    }

    private static void backFull() {
        BlorbRows x = new BlorbRows();
        Calls.fillTape(x, 5968);
        x.add(Octets.kind("TEXT"));
        due.is("write() of 6000", x.write(), 6000);
        due.is("back() of 6000", x.back(), 6000);
        due.is("the tape of 6000", x.told(3), 6000);
        x.cut(5969);
        x.change(0);
        x.feed(3, 1);
        due.is("write() of 6002", x.write(), 6002);
        due.is("back() of 6002", x.back(), BlorbRows.FULL);
        due.is("the tape stays", x.told(3), 3);
        due.is("OUT stays", x.told(4), 6002);
    }
}
