import java.util.Random;

/** Runs of calls made by chance (always the same ones), each answer held against Model's. */
public final class RandomTest {
    private static final int RUNS = 3000;
    private static final int CALLS = 512;
    private static final String[] KINDS = {"Rect", "PNG ", "JPEG", "FORM", "OGGV", "TEXT", "BINA", "ZCOD", "Fspc",
        "RelN", "Plte", "Reso", "RIdx", "MOD ", "SONG", "GLUL"};
    private static final String[] USES = {"Pict", "Pict", "Snd ", "Data", "Exec"};
    private static final int[] ODD_INTS = {-1, Integer.MIN_VALUE, Integer.MAX_VALUE, 65535, 65536, 6000, 12000, 0x7FFFFFF8};
    private static final long[] ODD_LONGS = {-1, Long.MIN_VALUE, Long.MAX_VALUE, 4294967295L, 4294967296L, 1L << 33};

    private final Random chance;
    private final Due due = new Due();
    private BlorbRows x;
    private Model m;
    private int run;
    private int calls;

    private RandomTest(long seed) {
        chance = new Random(seed);
    }

    public static void main(String[] args) {
        RandomTest test = new RandomTest(20261116);
        for (int run = 0; run < RUNS; run++) {
            test.makeRun(run);
        }
        test.due.end("RandomTest");
    }

    private void makeRun(int number) {
        run = number;
        x = new BlorbRows();
        m = new Model();
        calls = 0;
        boolean crowded = run % 3 == 0;
        while (calls < CALLS) {
            if (crowded && chance.nextInt(3) > 0) {
                crowd();
            } else {
                step();
            }
        }
    }

    private void is(String call, long got, long want) {
        calls++;
        if (calls <= CALLS) {
            due.is("run " + run + ", call " + calls + ": " + call, got, want);
        }
    }

    private int pick(int bound) {
        return chance.nextInt(20) == 0 ? ODD_INTS[chance.nextInt(ODD_INTS.length)] : chance.nextInt(Math.max(bound, 0) + 1);
    }

    private long number() {
        return chance.nextInt(20) == 0 ? ODD_LONGS[chance.nextInt(ODD_LONGS.length)] : chance.nextInt(6);
    }

    private int use() {
        return chance.nextInt(30) == 0 ? chance.nextInt() : Octets.kind(USES[chance.nextInt(USES.length)]);
    }

    private int kind() {
        return chance.nextInt(30) == 0 ? chance.nextInt() : Octets.kind(KINDS[chance.nextInt(KINDS.length)]);
    }

    private int someChunk() {
        return pick(m.told(0));
    }

    private void feedAll(Octets octets) {
        byte[] row = octets.bytes();
        int at = 0;
        while (at < row.length && calls < CALLS) {
            int n = Math.min(row.length - at, 8);
            long v = chance.nextLong();
            for (int i = 0; i < n; i++) {
                v = v << 8 | row[at + i] & 255;
            }
            is("feed(" + n + ", " + v + ")", x.feed(n, v), m.feed(n, v));
            at += n;
        }
    }

    /** Brings THE HOUSE to its bounds. */
    private void crowd() {
        switch (chance.nextInt(5)) {
            case 0: write(); break;
            case 1: back(); add(Octets.kind("TEXT")); break;
            case 2: back(); add(kind()); break;
            case 3: mean(use(), chance.nextInt(40), someChunk()); break;
            default: back(); int k = someChunk(); is("change(" + k + ")", x.change(k), m.change(k)); break;
        }
    }

    private void step() {
        switch (chance.nextInt(24)) {
            case 0: int n = pick(8); long v = chance.nextLong(); is("feed(" + n + ", " + v + ")", x.feed(n, v), m.feed(n, v)); break;
            case 1: int c = chance.nextBoolean() ? 0 : pick(m.told(3)); is("cut(" + c + ")", x.cut(c), m.cut(c)); break;
            case 2: readSome(); break;
            case 3: is("place()", x.place(), m.place()); break;
            case 4: int t = pick(5); is("told(" + t + ")", x.told(t), m.told(t)); break;
            case 5: case 6: case 7: case 8: look(); break;
            case 9: case 10: case 11: case 12: measure(); break;
            case 13: case 14: cutTape(); feedAll(data()); add(kind()); break;
            case 15: case 16: pictureOrSound(); break;
            case 17: mean(use(), number(), someChunk()); break;
            case 18: int k = someChunk(); is("change(" + k + ")", x.change(k), m.change(k)); break;
            case 19: int u = use(); long d = number(); is("drop(" + u + ", " + d + ")", x.drop(u, d), m.drop(u, d)); break;
            case 20: int r = someChunk(); is("remove(" + r + ")", x.remove(r), m.remove(r)); break;
            case 21: write(); break;
            case 22: int i = pick(m.told(4)); is("out(" + i + ")", x.out(i), m.out(i)); break;
            default: back(); break;
        }
    }

    private void write() {
        is("write()", x.write(), m.write());
    }

    private void back() {
        is("back()", x.back(), m.back());
    }

    private void add(int kind) {
        is("add(" + kind + ")", x.add(kind), m.add(kind));
    }

    private void mean(int use, long number, int k) {
        is("mean(" + use + ", " + number + ", " + k + ")", x.mean(use, number, k), m.mean(use, number, k));
    }

    private void cutTape() {
        is("cut(0)", x.cut(0), m.cut(0));
    }

    private void look() {
        int k = someChunk();
        int what = pick(3);
        switch (chance.nextInt(4)) {
            case 0: is("chunk(" + k + ", " + what + ")", x.chunk(k, what), m.chunk(k, what)); break;
            case 1: int i = pick(m.chunk(k, 1)); is("octet(" + k + ", " + i + ")", x.octet(k, i), m.octet(k, i)); break;
            case 2: int e = pick(m.told(1)); is("entry(" + e + ", " + what + ")", x.entry(e, what), m.entry(e, what)); break;
            default: int u = use(); long d = number(); is("find(" + u + ", " + d + ")", x.find(u, d), m.find(u, d)); break;
        }
    }

    private void measure() {
        int k = someChunk();
        int axis = pick(1);
        switch (chance.nextInt(6)) {
            case 0: is("size(" + k + ", " + axis + ")", x.size(k, axis), m.size(k, axis)); break;
            case 1: int w = pick(3); is("sound(" + k + ", " + w + ")", x.sound(k, w), m.sound(k, w)); break;
            case 2: is("front()", x.front(), m.front()); is("release()", x.release(), m.release()); break;
            case 3: int i = pick(4); is("colour(" + i + ")", x.colour(i), m.colour(i)); break;
            default:
                long d = number();
                int wx = pick(700);
                int wy = pick(700);
                is("scaled(" + d + ", " + wx + ", " + wy + ", " + axis + ")", x.scaled(d, wx, wy, axis), m.scaled(d, wx, wy, axis));
                break;
        }
    }

    private Octets data() {
        Octets row = new Octets();
        int n = chance.nextInt(12);
        for (int i = 0; i < n; i++) {
            row.u1(chance.nextInt(256));
        }
        return row;
    }

    private long small() {
        switch (chance.nextInt(12)) {
            case 0: return 0;
            case 1: return 65536;
            case 2: return 65535;
            case 3: return 65534;
            default: return 1 + chance.nextInt(9);
        }
    }

    /** A CHUNK that has a measure, or nearly has one, and perhaps a name. */
    private void pictureOrSound() {
        String[] kinds = {"Rect", "PNG ", "JPEG", "FORM", "Reso", "Plte", "Fspc", "RelN"};
        String kind = kinds[chance.nextInt(kinds.length)];
        cutTape();
        feedAll(cutAtTimes(dataOf(kind)));
        add(Octets.kind(kind));
        if (chance.nextBoolean()) {
            mean(Octets.kind(kind.equals("FORM") ? "Snd " : "Pict"), number(), m.told(0) - 1);
        }
        int last = m.told(0) - 1;
        int axis = chance.nextInt(2);
        int what = chance.nextInt(4);
        is("size(" + last + ", " + axis + ")", x.size(last, axis), m.size(last, axis));
        is("sound(" + last + ", " + what + ")", x.sound(last, what), m.sound(last, what));
    }

    private Octets cutAtTimes(Octets row) {
        byte[] whole = row.bytes();
        if (whole.length == 0 || chance.nextInt(4) > 0) {
            return row;
        }
        Octets part = new Octets();
        int n = chance.nextInt(whole.length);
        for (int i = 0; i < n; i++) {
            part.u1(whole[i]);
        }
        return part;
    }

    private Octets dataOf(String kind) {
        switch (kind) {
            case "Rect": return new Octets().u4(small() * 31, small() * 17);
            case "PNG ": return Octets.of(137, 80, 78, 71, 13, 10, 26, 10).u4(13).put("IHDR").u4(small(), chance.nextInt() & 0xFFFFFFFFL);
            case "JPEG": return jpeg();
            case "FORM": return aiff();
            case "Reso": return reso();
            case "Fspc": return new Octets().u4(chance.nextInt() & 0xFFFFFFFFL);
            case "RelN": return new Octets().u2(chance.nextInt(65536));
            default: return data();
        }
    }

    private Octets jpeg() {
        Octets row = Octets.of(255, 216);
        int n = chance.nextInt(5);
        int[] marks = {1, 208, 215, 224, 254, 196, 204, 200, 2, 191, 216, 217, 0, 255};
        for (int i = 0; i < n; i++) {
            int mark = marks[chance.nextInt(chance.nextInt(8) == 0 ? marks.length : 9)];
            row.u1(255, mark);
            if (mark != 1 && (mark < 208 || mark > 215)) {
                int s = chance.nextInt(7) + (chance.nextInt(5) == 0 ? 0 : 2);
                row.u2(s).zeros(Math.max(0, s - 2));
            }
        }
        return row.u1(255, 192 + chance.nextInt(16)).u2(6 + chance.nextInt(4)).u1(8).u2(chance.nextInt(600), chance.nextInt(600));
    }

    private Octets aiff() {
        Octets row = Octets.text("AIFF");
        int n = chance.nextInt(3);
        for (int i = 0; i < n; i++) {
            Octets data = data();
            row.put(chance.nextBoolean() ? "SSND" : "COMM").u4(data.length() + (chance.nextInt(12) == 0 ? 5 : 0)).put(data).zeros(data.length() & 1);
        }
        row.put("COMM").u4(17 + chance.nextInt(3)).u2(2).u4(chance.nextInt() & 0xFFFFFFFFL).u2(16);
        return row.u2(16446 - chance.nextInt(70)).u4(chance.nextInt() & 0xFFFFFFFFL, chance.nextInt() & 0xFFFFFFFFL);
    }

    private Octets reso() {
        Octets row = new Octets().u4(small() * 60, small() * 60, 0, 0, 0, 0);
        int n = chance.nextInt(4);
        for (int i = 0; i < n; i++) {
            row.u4(chance.nextInt(6)).u4(small(), small());
            for (int j = 0; j < 2; j++) {
                row.u4(chance.nextInt(3) == 0 ? new long[] {0, 0} : new long[] {small(), small()});
            }
        }
        return row;
    }

    /** A FILE of small CHUNKS, at times with an octet that is wrong, or cut off. */
    private void readSome() {
        Octets pieces = new Octets();
        int n = chance.nextInt(4);
        int entries = chance.nextInt(4);
        int[] places = new int[n + 1];
        Octets behind = new Octets();
        for (int k = 0; k < n; k++) {
            places[k] = 24 + 12 * entries + behind.length();
            String kind = KINDS[chance.nextInt(KINDS.length)];
            behind.piece(kind, chance.nextBoolean() ? data() : Octets.of());
        }
        places[n] = chance.nextInt(100);
        Octets index = new Octets().u4(entries);
        for (int i = 0; i < entries; i++) {
            index.put(USES[chance.nextInt(USES.length)]).u4(chance.nextInt(6), places[chance.nextInt(Math.max(n, 1))]);
        }
        byte[] file = Octets.form(pieces.piece("RIdx", index).put(behind)).bytes();
        int changes = Math.max(0, chance.nextInt(4) - 1);
        for (int i = 0; i < changes; i++) {
            file[chance.nextInt(file.length)] = (byte) (chance.nextBoolean() ? chance.nextInt(256) : chance.nextInt(30));
        }
        Octets row = new Octets();
        for (byte octet : file) {
            row.u1(octet);
        }
        cutTape();
        feedAll(cutAtTimes(row));
        is("read()", x.read(), m.read());
        is("place()", x.place(), m.place());
    }
}
