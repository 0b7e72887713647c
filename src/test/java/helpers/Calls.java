/** Runs of calls that many tests begin with. */
final class Calls {
    private Calls() {
    }

    static void feed(BlorbRows x, Octets octets) {
        byte[] row = octets.bytes();
        for (int at = 0; at < row.length; at += 8) {
            int n = Math.min(8, row.length - at);
            long v = 0;
            for (int i = 0; i < n; i++) {
                v = v << 8 | row[at + i] & 255;
            }
            x.feed(n, v);
        }
    }

    static int add(BlorbRows x, String kind, Octets data) {
        x.cut(0);
        feed(x, data);
        return x.add(Octets.kind(kind));
    }

    static int change(BlorbRows x, int k, Octets data) {
        x.cut(0);
        feed(x, data);
        return x.change(k);
    }

    static int read(BlorbRows x, Octets file) {
        x.cut(0);
        feed(x, file);
        return x.read();
    }

    /**
     * Brings THE TAPE of a new object to n octets in some 120 calls, where feed() alone would want more
     * than an object is used for: what is WRITTEN is put in as CHUNKS, and these are taken out again.
     */
    static void fillTape(BlorbRows x, int n) {
        feed(x, new Octets().zeros(96));
        x.add(Octets.kind("FILL"));
        x.write();
        addOut(x, 4);
        x.write();
        removeLast(x, 5);
        addOut(x, 8);
        x.write();
        removeLast(x, 8);
        x.back();
        if (n < x.told(3)) {
            x.cut(n);
        } else {
            feed(x, new Octets().zeros(n - x.told(3)));
        }
    }

    /** n CHUNKS "TEXT" of an octet each, which is the CHUNK's number. */
    static BlorbRows manyChunks(int n) {
        BlorbRows x = new BlorbRows();
        for (int k = 0; k < n; k++) {
            x.feed(1, k);
            x.add(Octets.kind("TEXT"));
        }
        return x;
    }

    /**
     * 60 CHUNKS with 12000 octets, every DATA odd in number, and 40 ENTRIES (DATA 0 .. 39, of which 0 means
     * the last CHUNK, 1 the one before it, ..), in some 350 calls: no OUT is longer than that of this HOUSE.
     */
    static BlorbRows greatestHouse() {
        BlorbRows x = new BlorbRows();
        fillTape(x, 5831);
        x.add(Octets.kind("TEXT"));
        x.write();
        x.back();
        x.cut(5863);
        x.add(Octets.kind("TEXT"));
        for (int k = 2; k < 59; k++) {
            x.feed(5, k * 0x0101010101L);
            x.add(Octets.kind("TEXT"));
        }
        feed(x, new Octets().zeros(20).u1(255));
        x.add(Octets.kind("TEXT"));
        for (int i = 0; i < 40; i++) {
            x.mean(Octets.kind("Data"), i, 59 - i);
        }
        return x;
    }

    private static void addOut(BlorbRows x, int times) {
        for (int i = 0; i < times; i++) {
            x.back();
            x.add(Octets.kind("FILL"));
        }
    }

    private static void removeLast(BlorbRows x, int times) {
        for (int i = 0; i < times; i++) {
            x.remove(x.told(0) - 1);
        }
    }
}
