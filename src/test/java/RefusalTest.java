import java.util.function.Supplier;
import java.util.function.ToLongFunction;

/**
 * "REFUSALS are answers .. They change nothing": of every promise that has some. Two objects are made alike, one is
 * asked and refuses, and then all that can be seen of both must be the same.
 */
public final class RefusalTest {
    private static final Due due = new Due();
    private static final int BAD = BlorbRows.BAD;
    private static final int NONE = BlorbRows.NONE;
    private static final int TAKEN = BlorbRows.TAKEN;
    private static final int FULL = BlorbRows.FULL;
    private static final int PICT = Octets.kind("Pict");
    private static final int SND = Octets.kind("Snd ");
    private static final int DATA = Octets.kind("Data");
    private static final int TEXT = Octets.kind("TEXT");

    public static void main(String[] args) {
        feed();
        cut();
        told();
        chunk();
        octet();
        entry();
        find();
        size();
        sound();
        front();
        release();
        colour();
        scaled();
        add();
        mean();
        change();
        drop();
        remove();
        out();
        back();
        faultsAreNoRefusals();
        looksChangeNothing();
        due.end("RefusalTest");
    }

    private static void refused(String name, Supplier<BlorbRows> made, ToLongFunction<BlorbRows> call, long want) {
        BlorbRows asked = made.get();
        BlorbRows left = made.get();
        due.is(name, call.applyAsLong(asked), want);
        String got = Shown.of(asked);
        String stays = Shown.of(left);
        due.isTrue(name + " leaves [" + got + "] of [" + stays + "]", got.equals(stays));
    }

    /** Some of everything: a FAULT's place, CHUNKS, ENTRIES, an OUT that is another house's, a TAPE. */
    private static BlorbRows some() {
        BlorbRows x = new BlorbRows();
        x.feed(5, 0x0102030405L);
        x.read();
        Calls.add(x, "Rect", new Octets().u4(3, 4));
        x.write();
        Calls.add(x, "TEXT", Octets.of(1, 2, 3));
        Calls.add(x, "BINA", Octets.of(9));
        x.mean(PICT, 1, 0);
        x.mean(DATA, 2, 1);
        x.feed(3, 0x0A0B0C);
        return x;
    }

    private static BlorbRows fullTape() {
        BlorbRows x = new BlorbRows();
        Calls.fillTape(x, 5998);
        x.feed(2, 0x0A0B);
        return x;
    }

    private static BlorbRows fullHouse() {
        BlorbRows x = Calls.greatestHouse();
        x.feed(6, 0x010203040506L);
        return x;
    }

    private static BlorbRows longOut() {
        BlorbRows x = new BlorbRows();
        Calls.fillTape(x, 5969);
        x.add(TEXT);
        x.write();
        x.feed(3, 0x0A0B0C);
        return x;
    }

    private static void feed() {
        due.promise(2, "BAD; FULL. They change nothing.");
        refused("feed(0, 1)", RefusalTest::some, x -> x.feed(0, 1), BAD);
        refused("feed(9, 1)", RefusalTest::some, x -> x.feed(9, 1), BAD);
        refused("feed(-1, 1)", RefusalTest::some, x -> x.feed(-1, 1), BAD);
        refused("feed(1, 1)", RefusalTest::fullTape, x -> x.feed(1, 1), FULL);
        refused("feed(8, 1)", RefusalTest::fullTape, x -> x.feed(8, 1), FULL);
        refused("feed(9, 1) of a full one", RefusalTest::fullTape, x -> x.feed(9, 1), BAD);
    }

    private static void cut() {
        due.promise(3, "BAD. They change nothing.");
        refused("cut(-1)", RefusalTest::some, x -> x.cut(-1), BAD);
        refused("cut(4)", RefusalTest::some, x -> x.cut(4), BAD);
        refused("cut(6001)", RefusalTest::fullTape, x -> x.cut(6001), BAD);
    }

    private static void told() {
        due.promise(6, "BAD. They change nothing.");
        refused("told(-1)", RefusalTest::some, x -> x.told(-1), BAD);
        refused("told(5)", RefusalTest::some, x -> x.told(5), BAD);
    }

    private static void chunk() {
        due.promise(7, "BAD. They change nothing.");
        refused("chunk(3, 0)", RefusalTest::some, x -> x.chunk(3, 0), BAD);
        refused("chunk(-1, 0)", RefusalTest::some, x -> x.chunk(-1, 0), BAD);
        refused("chunk(0, 4)", RefusalTest::some, x -> x.chunk(0, 4), BAD);
        refused("chunk(60, 0)", RefusalTest::fullHouse, x -> x.chunk(60, 0), BAD);
    }

    private static void octet() {
        due.promise(8, "BAD. They change nothing.");
        refused("octet(1, 3)", RefusalTest::some, x -> x.octet(1, 3), BAD);
        refused("octet(1, -1)", RefusalTest::some, x -> x.octet(1, -1), BAD);
        refused("octet(3, 0)", RefusalTest::some, x -> x.octet(3, 0), BAD);
    }

    private static void entry() {
        due.promise(9, "BAD. They change nothing.");
        refused("entry(2, 0)", RefusalTest::some, x -> x.entry(2, 0), BAD);
        refused("entry(-1, 0)", RefusalTest::some, x -> x.entry(-1, 0), BAD);
        refused("entry(0, 4)", RefusalTest::some, x -> x.entry(0, 4), BAD);
        refused("entry(40, 0)", RefusalTest::fullHouse, x -> x.entry(40, 0), BAD);
    }

    private static void find() {
        due.promise(10, "BAD; NONE. They change nothing.");
        refused("find(0, 1)", RefusalTest::some, x -> x.find(0, 1), BAD);
        refused("find(Pict, -1)", RefusalTest::some, x -> x.find(PICT, -1), BAD);
        refused("find(Pict, 2)", RefusalTest::some, x -> x.find(PICT, 2), NONE);
    }

    private static void size() {
        due.promise(11, "BAD, NONE. They change nothing.");
        refused("size(3, 0)", RefusalTest::some, x -> x.size(3, 0), BAD);
        refused("size(0, 2)", RefusalTest::some, x -> x.size(0, 2), BAD);
        refused("size(1, 0)", RefusalTest::some, x -> x.size(1, 0), NONE);
    }

    private static void sound() {
        due.promise(12, "BAD, NONE. They change nothing.");
        refused("sound(3, 0)", RefusalTest::some, x -> x.sound(3, 0), BAD);
        refused("sound(0, 4)", RefusalTest::some, x -> x.sound(0, 4), BAD);
        refused("sound(0, 0)", RefusalTest::some, x -> x.sound(0, 0), NONE);
    }

    private static void front() {
        due.promise(13, "NONE. They change nothing.");
        refused("front()", RefusalTest::some, x -> x.front(), NONE);
    }

    private static void release() {
        due.promise(14, "NONE. They change nothing.");
        refused("release()", RefusalTest::some, x -> x.release(), NONE);
    }

    private static void colour() {
        due.promise(15, "BAD; NONE. They change nothing.");
        refused("colour(-1)", RefusalTest::some, x -> x.colour(-1), BAD);
        refused("colour(0)", RefusalTest::some, x -> x.colour(0), NONE);
    }

    private static void scaled() {
        due.promise(16, "BAD; NONE. They change nothing.");
        refused("scaled(-1, 1, 1, 0)", RefusalTest::some, x -> x.scaled(-1, 1, 1, 0), BAD);
        refused("scaled(1, 0, 1, 0)", RefusalTest::some, x -> x.scaled(1, 0, 1, 0), BAD);
        refused("scaled(1, 1, 65536, 0)", RefusalTest::some, x -> x.scaled(1, 1, 65536, 0), BAD);
        refused("scaled(1, 1, 1, 2)", RefusalTest::some, x -> x.scaled(1, 1, 1, 2), BAD);
        refused("scaled(2, 1, 1, 0)", RefusalTest::some, x -> x.scaled(2, 1, 1, 0), NONE);
    }

    private static void add() {
        due.promise(17, "BAD; FULL. They change nothing.");
        refused("add(0)", RefusalTest::some, x -> x.add(0), BAD);
        refused("add(RIdx)", RefusalTest::some, x -> x.add(Octets.kind("RIdx")), BAD);
        refused("add(TEXT) of CHUNKS and octets", RefusalTest::fullHouse, x -> x.add(TEXT), FULL);
        refused("add(TEXT) of CHUNKS alone", RefusalTest::sixtyChunks, x -> x.add(TEXT), FULL);
        refused("add(TEXT) of octets alone", RefusalTest::twelveThousandOctets, x -> x.add(TEXT), FULL);
    }

    private static BlorbRows sixtyChunks() {
        BlorbRows x = Calls.manyChunks(60);
        x.feed(2, 0x0A0B);
        return x;
    }

    private static BlorbRows twelveThousandOctets() {
        BlorbRows x = new BlorbRows();
        Calls.fillTape(x, 5968);
        x.add(TEXT);
        x.write();
        x.back();
        x.add(TEXT);
        Calls.feed(x, new Octets().zeros(32));
        x.add(TEXT);
        x.feed(1, 0x0A);
        return x;
    }

    private static void mean() {
        due.promise(18, "BAD; TAKEN; FULL. They change nothing.");
        refused("mean(0, 3, 0)", RefusalTest::some, x -> x.mean(0, 3, 0), BAD);
        refused("mean(Pict, 4294967296, 0)", RefusalTest::some, x -> x.mean(PICT, 4294967296L, 0), BAD);
        refused("mean(Pict, 3, 3)", RefusalTest::some, x -> x.mean(PICT, 3, 3), BAD);
        refused("mean(Pict, 1, 2)", RefusalTest::some, x -> x.mean(PICT, 1, 2), TAKEN);
        refused("mean(Data, 39, 0)", RefusalTest::fullHouse, x -> x.mean(DATA, 39, 0), TAKEN);
        refused("mean(Data, 40, 0)", RefusalTest::fullHouse, x -> x.mean(DATA, 40, 0), FULL);
    }

    private static void change() {
        due.promise(19, "BAD; FULL. They change nothing.");
        refused("change(3)", RefusalTest::some, x -> x.change(3), BAD);
        refused("change(-1)", RefusalTest::some, x -> x.change(-1), BAD);
        refused("change(2)", RefusalTest::fullHouse, x -> x.change(2), FULL);
        refused("change(58)", RefusalTest::fullHouse, x -> x.change(58), FULL);
    }

    private static void drop() {
        due.promise(20, "BAD; NONE. They change nothing.");
        refused("drop(0, 1)", RefusalTest::some, x -> x.drop(0, 1), BAD);
        refused("drop(Pict, -1)", RefusalTest::some, x -> x.drop(PICT, -1), BAD);
        refused("drop(Snd, 1)", RefusalTest::some, x -> x.drop(SND, 1), NONE);
        refused("drop(Pict, 2)", RefusalTest::some, x -> x.drop(PICT, 2), NONE);
    }

    private static void remove() {
        due.promise(21, "BAD; TAKEN. They change nothing.");
        refused("remove(3)", RefusalTest::some, x -> x.remove(3), BAD);
        refused("remove(-1)", RefusalTest::some, x -> x.remove(-1), BAD);
        refused("remove(0)", RefusalTest::some, x -> x.remove(0), TAKEN);
        refused("remove(59)", RefusalTest::fullHouse, x -> x.remove(59), TAKEN);
    }

    private static void out() {
        due.promise(23, "BAD. They change nothing.");
        refused("out(-1)", RefusalTest::some, x -> x.out(-1), BAD);
        refused("out(40)", RefusalTest::some, x -> x.out(40), BAD);
    }

    private static void back() {
        due.promise(24, "FULL. They change nothing.");
        refused("back()", RefusalTest::longOut, x -> x.back(), FULL);
    }

    private static void faultsAreNoRefusals() {
        due.promise(4, "-10 less its FAULT (THE HOUSE stays); THE TAPE is empty then");
        BlorbRows asked = some();
        due.is("read()", asked.read(), -11);
        BlorbRows left = some();
        left.cut(0);
        due.is("place()", asked.place(), 3);
        due.is("place() of the other", left.place(), 5);
        String got = Shown.of(asked).replaceFirst("place \\d+", "");
        due.isTrue("all but the place and the tape stays", got.equals(Shown.of(left).replaceFirst("place \\d+", "")));
    }

    private static void looksChangeNothing() {
        due.promise(7, "---- what there is, ---- measures");
        BlorbRows asked = some();
        BlorbRows left = some();
        asked.place();
        for (int i = 0; i < 4; i++) {
            asked.told(i);
            asked.chunk(0, i);
            asked.octet(1, i);
            asked.entry(0, i);
            asked.sound(1, i);
            asked.size(0, i);
            asked.colour(i);
            asked.out(i);
        }
        asked.find(PICT, 1);
        asked.front();
        asked.release();
        asked.scaled(1, 5, 5, 0);
        due.isTrue("all stays", Shown.of(asked).equals(Shown.of(left)));
    }
}
