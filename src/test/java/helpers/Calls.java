/** Runs of calls that many tests begin with. */
final class Calls {
    private Calls() {
    }

    static void feed(BlorbRows x, Octets octets) {
        byte[] row = octets.bytes();
        for (int at = 0; at < row.length; at += 8) {
            int n = Math.min(8, row.length - at);
            long v = 0;
            for (int i = 0; i < n; i++) {
                v = v << 8 | row[at + i] & 255;
            }
            x.feed(n, v);
        }
    }

    static int add(BlorbRows x, String kind, Octets data) {
        x.cut(0);
        feed(x, data);
        return x.add(Octets.kind(kind));
    }

    static int change(BlorbRows x, int k, Octets data) {
        x.cut(0);
        feed(x, data);
        return x.change(k);
    }

    static int read(BlorbRows x, Octets file) {
        x.cut(0);
        feed(x, file);
        return x.read();
    }

    /**
     * Brings THE TAPE of a new object to n octets in some 120 calls, where feed() alone would want more
     * than an object is used for: what is WRITTEN is put in as CHUNKS, and these are taken out again.
     */
    static void fillTape(BlorbRows x, int n) {
        feed(x, new Octets().zeros(96));
        x.add(Octets.kind("FILL"));
        x.write();
        addOut(x, 4);
        x.write();
        removeLast(x, 5);
        addOut(x, 8);
        x.write();
        removeLast(x, 8);
        x.back();
        if (n < x.told(3)) {
            x.cut(n);
        } else {
            feed(x, new Octets().zeros(n - x.told(3)));
        }
    }

    private static void addOut(BlorbRows x, int times) {
        for (int i = 0; i < times; i++) {
            x.back();
            x.add(Octets.kind("FILL"));
        }
    }

    private static void removeLast(BlorbRows x, int times) {
        for (int i = 0; i < times; i++) {
            x.remove(x.told(0) - 1);
        }
    }
}
