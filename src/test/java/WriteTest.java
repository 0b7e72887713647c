/** Promises 22 write, 23 out, 24 back: a method for each sentence that names an edge. */
public final class WriteTest {
    private static final Due due = new Due();
    private static final int BAD = BlorbRows.BAD;
    private static final int FULL = BlorbRows.FULL;
    private static final int TEXT = Octets.kind("TEXT");

    public static void main(String[] args) {
        writeAnEmptyHouse();
        writeEveryOctet();
        writeOddOctets();
        writePlaces();
        writeTheGreatest();
        writeAgain();
        writeChangesNothingElse();
        writeWhatWasRead();
        outOfEach();
        outThatIsNotThere();
        outStays();
        backBecomesTheTape();
        backOfAnEmptyOut();
        backLeavesOut();
        backOf6000();
        backOfMore();
        backOfTheGreatest();
        due.end("WriteTest");
    }

    private static void outIs(String name, BlorbRows x, Octets want) {
        byte[] row = want.bytes();
        due.is(name + ": told(4)", x.told(4), row.length);
        for (int i = 0; i < row.length; i++) {
            due.is(name + ": out(" + i + ")", x.out(i), row[i] & 255);
        }
        due.is(name + ": behind", x.out(row.length), BAD);
    }

    private static void writeAnEmptyHouse() {
        due.promise(22, "WRITTEN is the FILE of THE HOUSE");
        BlorbRows x = new BlorbRows();
        due.is("write()", x.write(), 24);
        outIs("empty", x, Octets.text("FORM").u4(16).put("IFRS").put("RIdx").u4(4).u4(0));
    }

    private static void writeEveryOctet() {
        due.promise(22, "OUT becomes what is WRITTEN: how many octets");
        BlorbRows x = new BlorbRows();
        Calls.add(x, "TEXT", Octets.of(255, 1, 128));
        Calls.add(x, "BINA", Octets.of());
        Calls.add(x, "Rect", new Octets().u4(1, 4294967295L));
        x.mean(Octets.kind("Pict"), 4294967295L, 2);
        x.mean(Octets.kind("Data"), 1, 0);
        // RIdx ends at 48; the CHUNKS stand at 48, 60, 68.
        Octets index = new Octets().u4(2).put("Pict").u4(4294967295L, 68).put("Data").u4(1, 48);
        Octets want = Octets.form(new Octets().piece("RIdx", index).piece("TEXT", Octets.of(255, 1, 128))
            .piece("BINA", Octets.of()).piece("Rect", new Octets().u4(1, 4294967295L)));
        due.is("write()", x.write(), want.length());
        outIs("three chunks", x, want);
    }

    private static void writeOddOctets() {
        due.promise(22, "an octet 0 behind if they are odd in number");
        for (int n = 0; n < 5; n++) {
            BlorbRows x = new BlorbRows();
            // What a longer OUT left behind must not show.
            Calls.add(x, "TEXT", Octets.of(255, 255, 255, 255, 255, 255, 255));
            x.write();
            Octets data = new Octets();
            for (int i = 0; i < n; i++) {
                data.u1(255);
            }
            Calls.change(x, 0, data);
            due.is("write() of " + n, x.write(), 32 + n + (n & 1));
            due.is("the last octet of " + n, x.out(31 + n + (n & 1)), n == 0 || n % 2 == 1 ? 0 : 255);
            due.is("how many are told", x.out(31), n);
        }
    }

    private static void writePlaces() {
        due.promise(22, "PLACE (u4): where the KIND of the PIECE that is meant stands in the FILE");
        BlorbRows x = new BlorbRows();
        for (int k = 0; k < 10; k++) {
            Calls.add(x, "TEXT", new Octets().zeros(40 * k + k % 3));
            x.mean(Octets.kind("Data"), k, k);
        }
        x.write();
        for (int i = 0; i < 10; i++) {
            int at = 24 + 12 * i + 8;
            int place = x.out(at) << 24 | x.out(at + 1) << 16 | x.out(at + 2) << 8 | x.out(at + 3);
            due.is("PLACE of " + i, place, x.chunk(i, 2));
            due.is("the KIND there", x.out(place), 'T');
        }
    }

    private static void writeTheGreatest() {
        due.promise(22, "up to 60 CHUNKS, 12000 octets of DATA in all, up to 40 ENTRIES");
        BlorbRows x = Calls.greatestHouse();
        due.is("write()", x.write(), 13044);
        due.is("the first octet", x.out(0), 'F');
        due.is("FORM's u4, high", x.out(6), 13036 >> 8);
        due.is("FORM's u4, low", x.out(7), 13036 & 255);
        due.is("RIdx's n", x.out(23), 40);
        due.is("the first PLACE, high", x.out(34), 13014 >> 8);
        due.is("the first PLACE, low", x.out(35), 13014 & 255);
        due.is("the last octet of DATA", x.out(13042), 255);
        due.is("the odd octet", x.out(13043), 0);
        due.is("behind", x.out(13044), BAD);
        due.is("write() again", x.write(), 13044);
    }

    private static void writeAgain() {
        due.promise(22, "OUT becomes what is WRITTEN");
        BlorbRows x = new BlorbRows();
        Calls.add(x, "TEXT", Octets.of(1, 2, 3));
        due.is("longer", x.write(), 36);
        x.remove(0);
        due.is("shorter", x.write(), 24);
        due.is("told(4)", x.told(4), 24);
        due.is("the longer one is gone", x.out(24), BAD);
        due.is("FORM's u4", x.out(7), 16);
    }

    private static void writeChangesNothingElse() {
        due.promise(22, "OUT becomes what is WRITTEN");
        BlorbRows x = new BlorbRows();
        Calls.add(x, "TEXT", Octets.of(1, 2, 3));
        x.mean(Octets.kind("Data"), 1, 0);
        x.feed(2, 9);
        x.write();
        int[] want = {1, 1, 3, 2, 48};
        for (int what = 0; what < 5; what++) {
            due.is("told(" + what + ")", x.told(what), want[what]);
        }
        due.is("octet(0, 2)", x.octet(0, 2), 3);
    }

    private static void writeWhatWasRead() {
        due.promise(22, "there is just one");
        BlorbRows x = new BlorbRows();
        for (int k = 0; k < 20; k++) {
            Calls.add(x, "TEXT", new Octets().zeros(k).u1(k));
            x.mean(Octets.kind("Data"), 100 - k, 19 * k % (k + 1));
        }
        int length = x.write();
        due.is("back()", x.back(), length);
        due.is("read()", x.read(), 20);
        due.is("entries", x.told(1), 20);
        for (int k = 0; k < 20; k++) {
            due.is("its octet " + k, x.octet(k, k), k);
            due.is("what is meant " + k, x.find(Octets.kind("Data"), 100 - k), 19 * k % (k + 1));
        }
        due.is("written again", x.write(), length);
    }

    private static void outOfEach() {
        due.promise(23, "Octet i of OUT");
        BlorbRows x = new BlorbRows();
        Calls.add(x, "TEXT", Octets.of(0, 127, 128, 255));
        x.write();
        due.is("the first", x.out(0), 'F');
        int[] want = {0, 127, 128, 255};
        for (int i = 0; i < 4; i++) {
            due.is("out(" + (32 + i) + ")", x.out(32 + i), want[i]);
        }
    }

    private static void outThatIsNotThere() {
        due.promise(23, "BAD");
        BlorbRows x = new BlorbRows();
        due.is("an empty OUT", x.out(0), BAD);
        x.write();
        int[] wrong = {-1, 24, 25, 6000, 13043, 13044, Integer.MAX_VALUE, Integer.MIN_VALUE};
        for (int i : wrong) {
            due.is("out(" + i + ")", x.out(i), BAD);
        }
        due.is("the last one", x.out(23), 0);
    }

    private static void outStays() {
        due.promise(23, "Octet i of OUT");
        BlorbRows x = new BlorbRows();
        Calls.add(x, "TEXT", Octets.of(1, 2, 3));
        x.write();
        Calls.change(x, 0, Octets.of(9, 9, 9));
        due.is("a chunk is changed", x.out(33), 2);
        x.remove(0);
        due.is("a chunk went", x.out(33), 2);
        x.read();
        x.back();
        x.read();
        due.is("another FILE is read", x.out(33), 2);
        due.is("told(4)", x.told(4), 36);
    }

    private static void backBecomesTheTape() {
        due.promise(24, "OUT's octets become THE TAPE: how many");
        BlorbRows x = new BlorbRows();
        Calls.add(x, "TEXT", Octets.of(1, 2));
        x.write();
        x.feed(3, 7);
        due.is("back()", x.back(), 34);
        due.is("told(3), what was there is gone", x.told(3), 34);
        due.is("fed behind", x.feed(1, 99), 35);
        x.add(TEXT);
        due.is("the first octet", x.octet(1, 0), 'F');
        due.is("the last octet", x.octet(1, 33), 2);
        due.is("what was fed", x.octet(1, 34), 99);
        Calls.feed(x, new Octets().zeros(50));
        due.is("in the place of a longer tape", x.back(), 34);
        due.is("told(3) then", x.told(3), 34);
    }

    private static void backOfAnEmptyOut() {
        due.promise(24, "OUT's octets become THE TAPE");
        BlorbRows x = new BlorbRows();
        x.feed(3, 7);
        due.is("back()", x.back(), 0);
        due.is("told(3)", x.told(3), 0);
    }

    private static void backLeavesOut() {
        due.promise(24, "OUT's octets become THE TAPE");
        BlorbRows x = new BlorbRows();
        x.write();
        x.back();
        due.is("told(4)", x.told(4), 24);
        due.is("out(0)", x.out(0), 'F');
        x.cut(0);
        x.feed(1, 1);
        due.is("OUT is not the tape", x.out(0), 'F');
        due.is("back() again", x.back(), 24);
    }

    /** Its OUT has 32 octets more than n, and one more if n is odd. */
    private static BlorbRows written(int n) {
        BlorbRows x = new BlorbRows();
        Calls.fillTape(x, n);
        x.add(TEXT);
        x.write();
        x.feed(3, 1);
        return x;
    }

    private static void backOf6000() {
        due.promise(24, "FULL: more than 6000");
        BlorbRows x = written(5968);
        due.is("told(4)", x.told(4), 6000);
        due.is("back()", x.back(), 6000);
        due.is("told(3)", x.told(3), 6000);
        due.is("feed(1)", x.feed(1, 0), FULL);
        BlorbRows y = written(5967);
        due.is("back() of 5967 and an odd octet", y.back(), 6000);
    }

    private static void backOfMore() {
        due.promise(24, "FULL: more than 6000");
        BlorbRows x = written(5969);
        due.is("told(4)", x.told(4), 6002);
        due.is("back()", x.back(), FULL);
        due.is("the tape stays", x.told(3), 3);
        due.is("OUT stays", x.told(4), 6002);
    }

    private static void backOfTheGreatest() {
        due.promise(24, "FULL: more than 6000");
        BlorbRows x = Calls.greatestHouse();
        x.write();
        due.is("back()", x.back(), FULL);
        due.is("the tape stays", x.told(3), 0);
    }
}
