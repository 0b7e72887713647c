import java.io.ByteArrayOutputStream;
import java.math.BigInteger;
import java.nio.ByteBuffer;
import java.nio.charset.StandardCharsets;
import java.util.ArrayList;
import java.util.Arrays;
import java.util.List;

/** The document a second time, with the Java library's means, for runs of calls that nobody wrote by hand. */
final class Model {
    private static final int BAD = -1, NONE = -2, TAKEN = -3, FULL = -4;

    static final class Chunk {
        String kind;
        byte[] data;

        Chunk(String kind, byte[] data) {
            this.kind = kind;
            this.data = data;
        }
    }

    static final class Entry {
        String use;
        long number;
        Chunk chunk;

        Entry(String use, long number, Chunk chunk) {
            this.use = use;
            this.number = number;
            this.chunk = chunk;
        }
    }

    static final class Fault extends Exception {
        final int number;
        final int place;

        Fault(int number, int place) {
            this.number = number;
            this.place = place;
        }
    }

    private byte[] tape = {};
    private byte[] out = {};
    private List<Chunk> chunks = new ArrayList<>();
    private List<Entry> entries = new ArrayList<>();
    private int place = NONE;

    private static String name(int kind) {
        return new String(ByteBuffer.allocate(4).putInt(kind).array(), StandardCharsets.ISO_8859_1);
    }

    private static String text(byte[] row, int at, int n) {
        return new String(row, at, n, StandardCharsets.ISO_8859_1);
    }

    private static long u4(byte[] row, int at) {
        return Integer.toUnsignedLong(ByteBuffer.wrap(row).getInt(at));
    }

    private static int u2(byte[] row, int at) {
        return Short.toUnsignedInt(ByteBuffer.wrap(row).getShort(at));
    }

    private static boolean isKind(String kind) {
        return kind.matches("[ -~]{4}");
    }

    private static boolean isUse(String use) {
        return List.of("Pict", "Snd ", "Data", "Exec").contains(use);
    }

    private static boolean isNumber(long number) {
        return number >>> 32 == 0;
    }

    private boolean isChunk(int k) {
        return 0 <= k && k < chunks.size();
    }

    private int octets() {
        return chunks.stream().mapToInt(c -> c.data.length).sum();
    }

    private int meanings(Chunk chunk) {
        return (int) entries.stream().filter(e -> e.chunk == chunk).count();
    }

    int feed(int n, long v) {
        if (n < 1 || n > 8) {
            return BAD;
        }
        if (tape.length + n > 6000) {
            return FULL;
        }
        byte[] eight = ByteBuffer.allocate(8).putLong(v).array();
        tape = join(tape, Arrays.copyOfRange(eight, 8 - n, 8));
        return tape.length;
    }

    private static byte[] join(byte[] a, byte[] b) {
        byte[] both = Arrays.copyOf(a, a.length + b.length);
        System.arraycopy(b, 0, both, a.length, b.length);
        return both;
    }

    int cut(int n) {
        if (n < 0 || n > tape.length) {
            return BAD;
        }
        int went = tape.length - n;
        tape = Arrays.copyOf(tape, n);
        return went;
    }

    int read() {
        byte[] file = tape;
        tape = new byte[0];
        try {
            parse(file);
            place = NONE;
            return chunks.size();
        } catch (Fault fault) {
            place = fault.place;
            return -10 - fault.number;
        }
    }

    private void parse(byte[] f) throws Fault {
        check(f.length >= 12, 1, f.length);
        check(text(f, 0, 4).equals("FORM"), 2, 0);
        check(u4(f, 4) == f.length - 8, 3, 4);
        check(text(f, 8, 4).equals("IFRS"), 2, 8);
        List<Integer> places = new ArrayList<>();
        List<Chunk> pieces = new ArrayList<>();
        int at = 12;
        do {
            check(f.length - at >= 8, 1, f.length);
            String kind = text(f, at, 4);
            check(isKind(kind) && kind.equals("RIdx") == pieces.isEmpty(), 2, at);
            check(pieces.size() <= 60, 10, at);
            long n = u4(f, at + 4);
            check(at + 8 + n + n % 2 <= f.length, 4, at + 4);
            int end = at + 8 + (int) n;
            check(n % 2 == 0 || f[end] == 0, 5, end);
            places.add(at);
            pieces.add(new Chunk(kind, Arrays.copyOfRange(f, at + 8, end)));
            at = end + (int) (n % 2);
        } while (at < f.length);
        Chunk index = pieces.remove(0);
        places.remove(0);
        List<Entry> found = parseIndex(index.data, places, pieces);
        chunks = pieces;
        entries = found;
    }

    private List<Entry> parseIndex(byte[] d, List<Integer> places, List<Chunk> pieces) throws Fault {
        check(d.length >= 4 && BigInteger.valueOf(u4(d, 0)).multiply(BigInteger.valueOf(12)).add(BigInteger.valueOf(4))
            .equals(BigInteger.valueOf(d.length)), 6, 16);
        List<Entry> found = new ArrayList<>();
        for (int at = 4; at < d.length; at += 12) {
            String use = text(d, at, 4);
            long number = u4(d, at + 4);
            long meant = u4(d, at + 8);
            check(found.size() < 40, 10, 20 + at);
            check(isUse(use), 7, 20 + at);
            check(found.stream().noneMatch(e -> e.use.equals(use) && e.number == number), 9, 20 + at);
            int k = meant > 9999 ? -1 : places.indexOf((int) meant);
            check(k >= 0, 8, 28 + at);
            found.add(new Entry(use, number, pieces.get(k)));
        }
        return found;
    }

    private static void check(boolean so, int number, int place) throws Fault {
        if (!so) {
            throw new Fault(number, place);
        }
    }

    int place() {
        return place;
    }

    int told(int what) {
        int[] all = {chunks.size(), entries.size(), octets(), tape.length, out.length};
        return what < 0 || what > 4 ? BAD : all[what];
    }

    int chunk(int k, int what) {
        if (!isChunk(k) || what < 0 || what > 3) {
            return BAD;
        }
        Chunk c = chunks.get(k);
        int at = 24 + 12 * entries.size();
        for (Chunk before : chunks.subList(0, k)) {
            at += 8 + (before.data.length + 1) / 2 * 2;
        }
        int[] all = {Octets.kind(c.kind), c.data.length, at, meanings(c)};
        return all[what];
    }

    int octet(int k, int i) {
        if (!isChunk(k) || i < 0 || i >= chunks.get(k).data.length) {
            return BAD;
        }
        return Byte.toUnsignedInt(chunks.get(k).data[i]);
    }

    long entry(int i, int what) {
        if (i < 0 || i >= entries.size() || what < 0 || what > 3) {
            return BAD;
        }
        Entry e = entries.get(i);
        long[] all = {Octets.kind(e.use), e.number, chunks.indexOf(e.chunk), goes(e.use, e.chunk) ? 1 : 0};
        return all[what];
    }

    private static boolean goes(String use, Chunk c) {
        switch (use) {
            case "Pict": return List.of("PNG ", "JPEG", "Rect").contains(c.kind);
            case "Snd ": return List.of("OGGV", "MOD ", "SONG").contains(c.kind) || isAiff(c);
            case "Data": return List.of("TEXT", "BINA", "FORM").contains(c.kind);
            default: return List.of("ZCOD", "GLUL").contains(c.kind);
        }
    }

    private static boolean isAiff(Chunk c) {
        return c.kind.equals("FORM") && text(c.data, 0, c.data.length).startsWith("AIFF");
    }

    private Entry entryOf(String use, long number) {
        return entries.stream().filter(e -> e.use.equals(use) && e.number == number).findFirst().orElse(null);
    }

    int find(int use, long number) {
        if (!isUse(name(use)) || !isNumber(number)) {
            return BAD;
        }
        Entry e = entryOf(name(use), number);
        return e == null ? NONE : chunks.indexOf(e.chunk);
    }

    long size(int k, int axis) {
        if (!isChunk(k) || axis < 0 || axis > 1) {
            return BAD;
        }
        long[] both = sizes(chunks.get(k));
        return both == null ? NONE : both[axis];
    }

    private static long[] sizes(Chunk c) {
        byte[] d = c.data;
        if (c.kind.equals("Rect") && d.length >= 8) {
            return new long[] {u4(d, 0), u4(d, 4)};
        }
        if (c.kind.equals("PNG ") && d.length >= 24 && text(d, 0, 8).equals("\u0089PNG\r\n\u001a\n")
            && text(d, 12, 4).equals("IHDR")) {
            return new long[] {u4(d, 16), u4(d, 20)};
        }
        return c.kind.equals("JPEG") ? jpeg(d) : null;
    }

    private static long[] jpeg(byte[] d) {
        // Behind the end stand octets that no rule takes.
        int[] row = new int[d.length + 70000];
        Arrays.fill(row, -100000);
        for (int i = 0; i < d.length; i++) {
            row[i] = d[i] & 255;
        }
        if (row[0] != 255 || row[1] != 216) {
            return null;
        }
        int at = 2;
        while (row[at] == 255) {
            while (row[at] == 255) {
                at++;
            }
            int m = row[at++];
            if (m == 1 || m >= 208 && m <= 215) {
                continue;
            }
            int s = row[at] * 256 + row[at + 1];
            if (m < 0 || m == 0 || m == 216 || m == 217 || s < 2) {
                return null;
            }
            if (m >= 192 && m <= 207 && m % 4 != 0 || m == 192) {
                boolean there = s >= 7 && row[at + 6] >= 0;
                return there ? new long[] {row[at + 5] * 256 + row[at + 6], row[at + 3] * 256 + row[at + 4]} : null;
            }
            at += s;
            if (at >= d.length) {
                return null;
            }
        }
        return null;
    }

    long sound(int k, int what) {
        if (!isChunk(k) || what < 0 || what > 3) {
            return BAD;
        }
        Chunk c = chunks.get(k);
        if (!isAiff(c)) {
            return NONE;
        }
        byte[] d = c.data;
        int at = 4;
        while (at < d.length) {
            if (at + 8 > d.length || at + 8 + u4(d, at + 4) > d.length) {
                return NONE;
            }
            int n = (int) u4(d, at + 4);
            if (text(d, at, 4).equals("COMM") && n >= 18) {
                long[] all = {u2(d, at + 8), u4(d, at + 10), u2(d, at + 14), rate(Arrays.copyOfRange(d, at + 16, at + 26))};
                return all[what];
            }
            at += 8 + n + n % 2;
        }
        return NONE;
    }

    private static long rate(byte[] ten) {
        int e = u2(ten, 0);
        if (e > 16445) {
            return NONE;
        }
        BigInteger m = new BigInteger(1, Arrays.copyOfRange(ten, 2, 10));
        return m.divide(BigInteger.TWO.pow(16446 - e)).longValueExact();
    }

    long front() {
        return chunks.stream().filter(c -> c.kind.equals("Fspc") && c.data.length == 4)
            .mapToLong(c -> u4(c.data, 0)).findFirst().orElse(NONE);
    }

    int release() {
        return chunks.stream().filter(c -> c.kind.equals("RelN") && c.data.length == 2)
            .mapToInt(c -> u2(c.data, 0)).findFirst().orElse(NONE);
    }

    private Chunk firstOf(String kind) {
        return chunks.stream().filter(c -> c.kind.equals(kind)).findFirst().orElse(null);
    }

    int colour(int i) {
        if (i < 0) {
            return BAD;
        }
        Chunk c = firstOf("Plte");
        if (c == null || 3L * i + 3 > c.data.length) {
            return NONE;
        }
        return new BigInteger(1, Arrays.copyOfRange(c.data, 3 * i, 3 * i + 3)).intValueExact();
    }

    long scaled(long number, int wx, int wy, int axis) {
        if (!isNumber(number) || wx < 1 || wx > 65535 || wy < 1 || wy > 65535 || axis < 0 || axis > 1) {
            return BAD;
        }
        Entry e = entryOf("Pict", number);
        long[] both = e == null ? null : sizes(e.chunk);
        if (both == null || both[0] == 0 || both[1] == 0) {
            return NONE;
        }
        Chunk reso = firstOf("Reso");
        if (reso == null || reso.data.length < 24 || (reso.data.length - 24) % 28 != 0) {
            return both[axis];
        }
        for (int at = 24; at < reso.data.length; at += 28) {
            if (u4(reso.data, at) == number) {
                return scaledBy(reso.data, at + 4, wx, wy, both, axis);
            }
        }
        return both[axis];
    }

    private static long scaledBy(byte[] d, int at, int wx, int wy, long[] both, int axis) {
        long[] n = {u4(d, 0), u4(d, 4), both[0], both[1], u4(d, at), u4(d, at + 4), u4(d, at + 8), u4(d, at + 12),
            u4(d, at + 16), u4(d, at + 20)};
        boolean noLeast = n[6] == 0 && n[7] == 0;
        boolean noGreatest = n[8] == 0 && n[9] == 0;
        if (Arrays.stream(n).anyMatch(v -> v > 65535) || n[0] == 0 || n[1] == 0 || n[5] == 0
            || n[7] == 0 && !noLeast || n[9] == 0 && !noGreatest) {
            return NONE;
        }
        BigInteger[] across = {big(wx), big(n[0])};
        BigInteger[] down = {big(wy), big(n[1])};
        BigInteger[] room = compare(across, down) < 0 ? across : down;
        BigInteger[] ratio = {room[0].multiply(big(n[4])), room[1].multiply(big(n[5]))};
        BigInteger[] least = {big(n[6]), big(n[7])};
        BigInteger[] greatest = {big(n[8]), big(n[9])};
        if (!noLeast && compare(ratio, least) < 0) {
            ratio = least;
        } else if (!noGreatest && compare(ratio, greatest) > 0) {
            ratio = greatest;
        }
        return big(both[axis]).multiply(ratio[0]).divide(ratio[1]).longValueExact();
    }

    private static BigInteger big(long v) {
        return BigInteger.valueOf(v);
    }

    private static int compare(BigInteger[] a, BigInteger[] b) {
        return a[0].multiply(b[1]).compareTo(b[0].multiply(a[1]));
    }

    int add(int kind) {
        if (!isKind(name(kind)) || name(kind).equals("RIdx")) {
            return BAD;
        }
        if (chunks.size() == 60 || octets() + tape.length > 12000) {
            return FULL;
        }
        chunks.add(new Chunk(name(kind), tape));
        tape = new byte[0];
        return chunks.size() - 1;
    }

    int mean(int use, long number, int k) {
        if (!isUse(name(use)) || !isNumber(number) || !isChunk(k)) {
            return BAD;
        }
        if (entryOf(name(use), number) != null) {
            return TAKEN;
        }
        if (entries.size() == 40) {
            return FULL;
        }
        entries.add(new Entry(name(use), number, chunks.get(k)));
        return entries.size() - 1;
    }

    int change(int k) {
        if (!isChunk(k)) {
            return BAD;
        }
        int old = chunks.get(k).data.length;
        if (octets() - old + tape.length > 12000) {
            return FULL;
        }
        chunks.get(k).data = tape;
        tape = new byte[0];
        return old;
    }

    int drop(int use, long number) {
        if (!isUse(name(use)) || !isNumber(number)) {
            return BAD;
        }
        Entry e = entryOf(name(use), number);
        if (e == null) {
            return NONE;
        }
        entries.remove(e);
        return meanings(e.chunk) == 0 && chunks.remove(e.chunk) ? 1 : 0;
    }

    int remove(int k) {
        if (!isChunk(k)) {
            return BAD;
        }
        return meanings(chunks.get(k)) > 0 ? TAKEN : chunks.remove(k).data.length;
    }

    int write() {
        ByteArrayOutputStream body = new ByteArrayOutputStream();
        body.writeBytes(ByteBuffer.allocate(4).putInt(entries.size()).array());
        for (Entry e : entries) {
            body.writeBytes(ByteBuffer.allocate(12).putInt(Octets.kind(e.use)).putInt((int) e.number)
                .putInt(chunk(chunks.indexOf(e.chunk), 2)).array());
        }
        ByteArrayOutputStream file = new ByteArrayOutputStream();
        putPiece(file, "RIdx", body.toByteArray());
        for (Chunk c : chunks) {
            putPiece(file, c.kind, c.data);
        }
        out = Octets.text("FORM").u4(file.size() + 4).put("IFRS").bytes();
        out = join(out, file.toByteArray());
        return out.length;
    }

    private static void putPiece(ByteArrayOutputStream file, String kind, byte[] data) {
        file.writeBytes(kind.getBytes(StandardCharsets.ISO_8859_1));
        file.writeBytes(ByteBuffer.allocate(4).putInt(data.length).array());
        file.writeBytes(data);
        if (data.length % 2 == 1) {
            file.write(0);
        }
    }

    int out(int i) {
        return i < 0 || i >= out.length ? BAD : out[i] & 255;
    }

    int back() {
        if (out.length > 6000) {
            return FULL;
        }
        tape = out;
        return tape.length;
    }
}
