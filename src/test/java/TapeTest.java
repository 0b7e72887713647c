/** Promises 1 (a new object), 2 feed, 3 cut, 6 told. */
public final class TapeTest {
    private static final Due due = new Due();

    public static void main(String[] args) {
        newObject();
        feed();
        feedFull();
        cut();
        told();
        due.end("TapeTest");
    }

    private static void newObject() {
        BlorbRows x = new BlorbRows();
        for (int what = 0; what <= 4; what++) {
            due.is("new: told(" + what + ")", x.told(what), 0);
        }
        due.is("new: place()", x.place(), BlorbRows.NONE);
        due.is("new: chunk(0, 0)", x.chunk(0, 0), BlorbRows.BAD);
        due.is("new: entry(0, 0)", x.entry(0, 0), BlorbRows.BAD);
        due.is("new: out(0)", x.out(0), BlorbRows.BAD);
        due.is("new: front()", x.front(), BlorbRows.NONE);
        due.is("new: release()", x.release(), BlorbRows.NONE);
        due.is("new: colour(0)", x.colour(0), BlorbRows.NONE);
        due.is("new: back()", x.back(), 0);
        due.is("new: read()", x.read(), -11);
        due.is("new: place() of an empty tape", x.place(), 0);
        BlorbRows y = new BlorbRows();
        y.feed(1, 1);
        due.is("two objects share nothing", new BlorbRows().told(3), 0);
    }

    private static void feed() {
        BlorbRows x = new BlorbRows();
        due.is("feed(0, 1)", x.feed(0, 1), BlorbRows.BAD);
        due.is("feed(9, 1)", x.feed(9, 1), BlorbRows.BAD);
        due.is("feed(-1, 1)", x.feed(-1, 1), BlorbRows.BAD);
        due.is("feed(least int)", x.feed(Integer.MIN_VALUE, 1), BlorbRows.BAD);
        due.is("feed(greatest int)", x.feed(Integer.MAX_VALUE, 1), BlorbRows.BAD);
        due.is("refused feeds change nothing", x.told(3), 0);
        due.is("feed(8)", x.feed(8, 0x8182838485868788L), 8);
        due.is("feed(3) of a larger v", x.feed(3, 0x1122334455667788L), 11);
        due.is("feed(1, -1)", x.feed(1, -1), 12);
        due.is("feed(2) below 0", x.feed(2, -2), 14);
        x.add(Octets.kind("TEXT"));
        int[] want = {0x81, 0x82, 0x83, 0x84, 0x85, 0x86, 0x87, 0x88, 0x66, 0x77, 0x88, 255, 255, 254};
        for (int i = 0; i < want.length; i++) {
            due.is("octet that was fed " + i, x.octet(0, i), want[i]);
        }
    }

    private static void feedFull() {
        BlorbRows x = new BlorbRows();
        Calls.fillTape(x, 5995);
        due.is("filled", x.told(3), 5995);
        due.is("feed(6) where 5 go", x.feed(6, 0), BlorbRows.FULL);
        due.is("a full tape stays", x.told(3), 5995);
        due.is("feed(9) is BAD ahead of FULL", x.feed(9, 0), BlorbRows.BAD);
        due.is("feed(5) where 5 go", x.feed(5, 0x0102030405L), 6000);
        due.is("feed(1) where none goes", x.feed(1, 0), BlorbRows.FULL);
        due.is("cut(5999)", x.cut(5999), 1);
        due.is("feed(1) again", x.feed(1, 9), 6000);
        due.is("add of a whole tape", x.add(Octets.kind("TEXT")), 0);
        due.is("the last octet", x.octet(0, 5999), 9);
        due.is("the one before", x.octet(0, 5998), 4);
    }

    private static void cut() {
        BlorbRows x = new BlorbRows();
        due.is("cut(0) of none", x.cut(0), 0);
        due.is("cut(1) of none", x.cut(1), BlorbRows.BAD);
        x.feed(8, 0x0102030405060708L);
        due.is("cut(9)", x.cut(9), BlorbRows.BAD);
        due.is("cut(-1)", x.cut(-1), BlorbRows.BAD);
        due.is("refused cuts change nothing", x.told(3), 8);
        due.is("cut(8)", x.cut(8), 0);
        due.is("cut(3)", x.cut(3), 5);
        due.is("what stays", x.told(3), 3);
        x.feed(1, 77);
        x.add(Octets.kind("TEXT"));
        due.is("kept first", x.octet(0, 0), 1);
        due.is("kept last", x.octet(0, 2), 3);
        due.is("fed behind", x.octet(0, 3), 77);
    }

    private static void told() {
        BlorbRows x = new BlorbRows();
        due.is("told(-1)", x.told(-1), BlorbRows.BAD);
        due.is("told(5)", x.told(5), BlorbRows.BAD);
        Calls.add(x, "TEXT", Octets.of(1, 2, 3));
        Calls.add(x, "TEXT", Octets.of(4, 5));
        Calls.add(x, "TEXT", Octets.of());
        x.mean(Octets.kind("Data"), 1, 0);
        x.feed(4, 0);
        x.write();
        due.is("told(0)", x.told(0), 3);
        due.is("told(1)", x.told(1), 1);
        due.is("told(2)", x.told(2), 5);
        due.is("told(3)", x.told(3), 4);
        due.is("told(4)", x.told(4), 24 + 12 + 12 + 10 + 8);
        x.remove(1);
        due.is("told(2) when one went", x.told(2), 3);
        due.is("OUT stays", x.told(4), 66);
    }
}
