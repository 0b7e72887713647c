/** Files of resources in chunks (Blorb): read, looked into, changed and written again. */
public final class BlorbRows {
    public static final int BAD = -1, NONE = -2, TAKEN = -3, FULL = -4;

    private static final int MOST_TAPE = 6000;
    private static final int MOST_CHUNKS = 60;
    private static final int MOST_DATA = 12000;
    private static final int MOST_ENTRIES = 40;

    /** What stands in a FILE ahead of the first ENTRY: FORM, u4, IFRS, RIdx, u4, u4. */
    private static final int HEAD = 24;
    private static final int ENTRY_OCTETS = 12;
    /** A KIND and a u4, which stand ahead of every DATA. */
    private static final int PIECE_HEAD = 8;
    /** The largest FILE of a HOUSE: every DATA may want an odd octet. */
    private static final int MOST_OUT =
        HEAD + MOST_ENTRIES * ENTRY_OCTETS + MOST_CHUNKS * (PIECE_HEAD + 1) + MOST_DATA;

    private static final long MOST_U4 = 4294967295L;
    private static final int MOST_SIDE = 65535;
    private static final int FAULT_BASE = -10;

    private final Row tape;
    private final Row outRow;
    private final House house;
    private final Judge judge;
    private int faultPlace;

    public BlorbRows() {
        tape = new Row(MOST_TAPE);
        outRow = new Row(MOST_OUT);
        house = new House();
        judge = new Judge();
        faultPlace = NONE;
    }

    public int feed(int n, long v) {
        if (n < 1 || n > 8) {
            return BAD;
        }
        if (n > tape.room()) {
            return FULL;
        }
        tape.append(n, v);
        return tape.length;
    }

    public int cut(int n) {
        if (n < 0 || n > tape.length) {
            return BAD;
        }
        int went = tape.length - n;
        tape.keep(n);
        return went;
    }

    public int read() {
        Part file = tape.whole();
        int fault = judge.faultOf(file);
        faultPlace = NONE;
        if (fault == 0) {
            judge.moveInto(house, file);
        } else {
            faultPlace = judge.faultAt;
        }
        tape.keep(0);
        return fault == 0 ? house.chunks : FAULT_BASE - fault;
    }

    public int place() {
        return faultPlace;
    }

    public int told(int what) {
        switch (what) {
            case 0: return house.chunks;
            case 1: return house.entries;
            case 2: return house.data.length;
            case 3: return tape.length;
            case 4: return outRow.length;
            default: return BAD;
        }
    }

    // ---- what there is

    public int chunk(int k, int what) {
        if (!house.hasChunk(k)) {
            return BAD;
        }
        switch (what) {
            case 0: return house.kindOf(k);
            case 1: return house.lengthOf(k);
            case 2: return house.placeOf(k);
            case 3: return house.meaningsOf(k);
            default: return BAD;
        }
    }

    public int octet(int k, int i) {
        Part data = house.dataOf(k);
        return data.holds(i, 1) ? data.at(i) : BAD;
    }

    public long entry(int i, int what) {
        if (!house.hasEntry(i)) {
            return BAD;
        }
        switch (what) {
            case 0: return house.uses[i];
            case 1: return house.numbers[i];
            case 2: return house.targets[i];
            case 3: return house.goes(i) ? 1 : 0;
            default: return BAD;
        }
    }

    public int find(int use, long number) {
        if (!isName(use, number)) {
            return BAD;
        }
        int i = house.entryOf(use, number);
        return house.hasEntry(i) ? house.targets[i] : NONE;
    }

    // ---- measures

    public long size(int k, int axis) {
        if (!house.hasChunk(k) || !isAxis(axis)) {
            return BAD;
        }
        return Pictures.measure(house.kindOf(k), house.dataOf(k), axis);
    }

    public long sound(int k, int what) {
        if (!house.hasChunk(k) || what < 0 || what > 3) {
            return BAD;
        }
        return house.kindOf(k) == Kinds.FORM ? Sounds.measure(house.dataOf(k), what) : NONE;
    }

    public long front() {
        int k = house.firstWith(Kinds.FSPC, 4);
        return house.hasChunk(k) ? house.dataOf(k).u4(0) : NONE;
    }

    public int release() {
        int k = house.firstWith(Kinds.RELN, 2);
        return house.hasChunk(k) ? house.dataOf(k).u2(0) : NONE;
    }

    public int colour(int i) {
        if (i < 0) {
            return BAD;
        }
        Part palette = house.dataOf(house.firstOf(Kinds.PLTE));
        // Asked by a quotient, as 3 i may be beyond an int.
        if (i >= palette.length / 3) {
            return NONE;
        }
        return palette.u2(3 * i) << 8 | palette.at(3 * i + 2);
    }

    public long scaled(long number, int wx, int wy, int axis) {
        if (!isNumber(number) || !isSide(wx) || !isSide(wy) || !isAxis(axis)) {
            return BAD;
        }
        int i = house.entryOf(Kinds.PICT, number);
        if (!house.hasEntry(i)) {
            return NONE;
        }
        int k = house.targets[i];
        long wide = Pictures.measure(house.kindOf(k), house.dataOf(k), 0);
        long high = Pictures.measure(house.kindOf(k), house.dataOf(k), 1);
        if (wide <= 0 || high <= 0) {
            return NONE;
        }
        long measure = axis == 0 ? wide : high;
        Part reso = house.dataOf(house.firstOf(Kinds.RESO));
        int row = Windows.rowOf(reso, number);
        if (row < 0) {
            return measure;
        }
        if (wide > MOST_SIDE || high > MOST_SIDE) {
            return NONE;
        }
        Ratio ratio = Windows.ratioOn(reso, row, wx, wy);
        return ratio.isProper() ? ratio.of(measure) : NONE;
    }

    // ---- changes

    public int add(int kind) {
        if (!Kinds.isKind(kind) || kind == Kinds.RIDX) {
            return BAD;
        }
        if (!house.hasChunkRoom(tape.length)) {
            return FULL;
        }
        house.addChunk(kind, tape.whole());
        tape.keep(0);
        return house.chunks - 1;
    }

    public int mean(int use, long number, int k) {
        if (!isName(use, number) || !house.hasChunk(k)) {
            return BAD;
        }
        if (house.hasEntry(house.entryOf(use, number))) {
            return TAKEN;
        }
        if (house.entries >= MOST_ENTRIES) {
            return FULL;
        }
        house.addEntry(use, number, k);
        return house.entries - 1;
    }

    public int change(int k) {
        if (!house.hasChunk(k)) {
            return BAD;
        }
        int old = house.lengthOf(k);
        if (tape.length - old > house.data.room()) {
            return FULL;
        }
        house.setData(k, tape.whole());
        tape.keep(0);
        return old;
    }

    public int drop(int use, long number) {
        if (!isName(use, number)) {
            return BAD;
        }
        int i = house.entryOf(use, number);
        if (!house.hasEntry(i)) {
            return NONE;
        }
        int k = house.targets[i];
        house.takeEntry(i);
        if (house.meaningsOf(k) > 0) {
            return 0;
        }
        house.takeChunk(k);
        return 1;
    }

    public int remove(int k) {
        if (!house.hasChunk(k)) {
            return BAD;
        }
        if (house.meaningsOf(k) > 0) {
            return TAKEN;
        }
        int old = house.lengthOf(k);
        house.takeChunk(k);
        return old;
    }

    public int write() {
        outRow.keep(0);
        house.writeTo(outRow);
        return outRow.length;
    }

    public int out(int i) {
        Part written = outRow.whole();
        return written.holds(i, 1) ? written.at(i) : BAD;
    }

    public int back() {
        if (outRow.length > MOST_TAPE) {
            return FULL;
        }
        tape.keep(0);
        tape.splice(0, 0, outRow.whole());
        return tape.length;
    }

    private static boolean isNumber(long number) {
        return number >= 0 && number <= MOST_U4;
    }

    private static boolean isName(int use, long number) {
        return Kinds.isUse(use) && isNumber(number);
    }

    private static boolean isAxis(int axis) {
        return axis == 0 || axis == 1;
    }

    private static boolean isSide(long side) {
        return side >= 1 && side <= MOST_SIDE;
    }

    /** Octets up to a bound that is set once, so that no call has to make a row of its own. */
    private static final class Row {
        final byte[] octets;
        int length;

        Row(int most) {
            octets = new byte[Math.max(most, 0)];
            length = 0;
        }

        int room() {
            return octets.length - length;
        }

        Part whole() {
            return new Part(this, 0, length);
        }

        void keep(int n) {
            if (n >= 0 && n <= length) {
                length = n;
            }
        }

        /** Puts the n lowest octets of a value behind, the highest of them first. */
        void append(int n, long value) {
            if (n < 0 || n > 8 || n > room()) {
                return;
            }
            for (int left = n; left > 0; left--) {
                octets[length] = (byte) (value >>> (8 * (left - 1)));
                length++;
            }
        }

        /** Puts a part of another row in the place of the old octets at from. */
        void splice(int from, int old, Part part) {
            if (from < 0 || old < 0 || from > length - old || part.length - old > room()) {
                return;
            }
            int behind = from + old;
            System.arraycopy(octets, behind, octets, from + part.length, length - behind);
            System.arraycopy(part.row.octets, part.from, octets, from, part.length);
            length += part.length - old;
        }
    }

    /** A stretch of a row; what does not lie wholly inside it is answered with -1. */
    private static final class Part {
        final Row row;
        final int from;
        final int length;

        Part(Row row, int from, int length) {
            boolean inside = from >= 0 && length >= 0 && from <= row.length - length;
            this.row = row;
            this.from = inside ? from : 0;
            this.length = inside ? length : 0;
        }

        boolean holds(int i, int n) {
            return i >= 0 && i <= length - n;
        }

        int at(int i) {
            return (int) number(i, 1);
        }

        int u2(int i) {
            return (int) number(i, 2);
        }

        long u4(int i) {
            return number(i, 4);
        }

        private long number(int i, int n) {
            if (!holds(i, n)) {
                return -1;
            }
            long value = 0;
            for (int j = 0; j < n; j++) {
                value = value << 8 | row.octets[from + i + j] & 255;
            }
            return value;
        }
    }

    /** The KINDS that the document names, and which of them go together. */
    private static final class Kinds {
        static final int FORM = 'F' << 24 | 'O' << 16 | 'R' << 8 | 'M';
        static final int IFRS = 'I' << 24 | 'F' << 16 | 'R' << 8 | 'S';
        static final int RIDX = 'R' << 24 | 'I' << 16 | 'd' << 8 | 'x';
        static final int PICT = 'P' << 24 | 'i' << 16 | 'c' << 8 | 't';
        static final int SND = 'S' << 24 | 'n' << 16 | 'd' << 8 | ' ';
        static final int DATA = 'D' << 24 | 'a' << 16 | 't' << 8 | 'a';
        static final int EXEC = 'E' << 24 | 'x' << 16 | 'e' << 8 | 'c';
        static final int RECT = 'R' << 24 | 'e' << 16 | 'c' << 8 | 't';
        static final int PNG = 'P' << 24 | 'N' << 16 | 'G' << 8 | ' ';
        static final int JPEG = 'J' << 24 | 'P' << 16 | 'E' << 8 | 'G';
        static final int IHDR = 'I' << 24 | 'H' << 16 | 'D' << 8 | 'R';
        static final int AIFF = 'A' << 24 | 'I' << 16 | 'F' << 8 | 'F';
        static final int COMM = 'C' << 24 | 'O' << 16 | 'M' << 8 | 'M';
        static final int OGGV = 'O' << 24 | 'G' << 16 | 'G' << 8 | 'V';
        static final int MOD = 'M' << 24 | 'O' << 16 | 'D' << 8 | ' ';
        static final int SONG = 'S' << 24 | 'O' << 16 | 'N' << 8 | 'G';
        static final int TEXT = 'T' << 24 | 'E' << 16 | 'X' << 8 | 'T';
        static final int BINA = 'B' << 24 | 'I' << 16 | 'N' << 8 | 'A';
        static final int ZCOD = 'Z' << 24 | 'C' << 16 | 'O' << 8 | 'D';
        static final int GLUL = 'G' << 24 | 'L' << 16 | 'U' << 8 | 'L';
        static final int FSPC = 'F' << 24 | 's' << 16 | 'p' << 8 | 'c';
        static final int RELN = 'R' << 24 | 'e' << 16 | 'l' << 8 | 'N';
        static final int PLTE = 'P' << 24 | 'l' << 16 | 't' << 8 | 'e';
        static final int RESO = 'R' << 24 | 'e' << 16 | 's' << 8 | 'o';

        static boolean isKind(int kind) {
            return isLetter(kind >>> 24) && isLetter(kind >>> 16 & 255)
                && isLetter(kind >>> 8 & 255) && isLetter(kind & 255);
        }

        private static boolean isLetter(int octet) {
            return octet >= 32 && octet <= 126;
        }

        static boolean isUse(int use) {
            return use == PICT || use == SND || use == DATA || use == EXEC;
        }

        static boolean goTogether(int use, int kind, Part data) {
            switch (use) {
                case PICT: return kind == PNG || kind == JPEG || kind == RECT;
                case SND: return kind == OGGV || kind == MOD || kind == SONG
                    || kind == FORM && data.u4(0) == AIFF;
                case DATA: return kind == TEXT || kind == BINA || kind == FORM;
                case EXEC: return kind == ZCOD || kind == GLUL;
                default: return false;
            }
        }
    }

    /** The CHUNKS and the ENTRIES; every DATA stands in one row, in the order of the CHUNKS. */
    private static final class House {
        final Row data;
        final int[] kinds;
        /** Where each DATA begins; one more, so that the last one's end is told likewise. */
        final int[] starts;
        int chunks;
        final int[] uses;
        final long[] numbers;
        final int[] targets;
        int entries;

        House() {
            data = new Row(MOST_DATA);
            kinds = new int[MOST_CHUNKS];
            starts = new int[MOST_CHUNKS + 1];
            chunks = 0;
            uses = new int[MOST_ENTRIES];
            numbers = new long[MOST_ENTRIES];
            targets = new int[MOST_ENTRIES];
            entries = 0;
        }

        void empty() {
            data.keep(0);
            chunks = 0;
            entries = 0;
        }

        boolean hasChunk(int k) {
            return k >= 0 && k < chunks;
        }

        boolean hasEntry(int i) {
            return i >= 0 && i < entries;
        }

        boolean hasChunkRoom(int octets) {
            return chunks < MOST_CHUNKS && octets <= data.room();
        }

        int kindOf(int k) {
            return hasChunk(k) ? kinds[k] : NONE;
        }

        int lengthOf(int k) {
            return hasChunk(k) ? starts[k + 1] - starts[k] : 0;
        }

        /** A CHUNK that is not there has an empty DATA, so that a search's answer can be used as it is. */
        Part dataOf(int k) {
            return new Part(data, hasChunk(k) ? starts[k] : 0, lengthOf(k));
        }

        /** Where a CHUNK stands in what is WRITTEN; of the number behind the last, how long that is. */
        int placeOf(int k) {
            int place = HEAD + ENTRY_OCTETS * entries;
            for (int j = 0; j < k && j < chunks; j++) {
                place += PIECE_HEAD + lengthOf(j) + (lengthOf(j) & 1);
            }
            return place;
        }

        int meaningsOf(int k) {
            int count = 0;
            for (int i = 0; i < entries; i++) {
                if (targets[i] == k) {
                    count++;
                }
            }
            return count;
        }

        boolean goes(int i) {
            if (!hasEntry(i)) {
                return false;
            }
            int k = targets[i];
            return Kinds.goTogether(uses[i], kindOf(k), dataOf(k));
        }

        int entryOf(int use, long number) {
            for (int i = 0; i < entries; i++) {
                if (uses[i] == use && numbers[i] == number) {
                    return i;
                }
            }
            return NONE;
        }

        int firstOf(int kind) {
            for (int k = 0; k < chunks; k++) {
                if (kinds[k] == kind) {
                    return k;
                }
            }
            return NONE;
        }

        int firstWith(int kind, int length) {
            for (int k = 0; k < chunks; k++) {
                if (kinds[k] == kind && lengthOf(k) == length) {
                    return k;
                }
            }
            return NONE;
        }

        void addChunk(int kind, Part part) {
            if (!hasChunkRoom(part.length)) {
                return;
            }
            kinds[chunks] = kind;
            starts[chunks] = data.length;
            data.splice(data.length, 0, part);
            chunks++;
            starts[chunks] = data.length;
        }

        void addEntry(int use, long number, int k) {
            if (entries >= MOST_ENTRIES) {
                return;
            }
            uses[entries] = use;
            numbers[entries] = number;
            targets[entries] = k;
            entries++;
        }

        void setData(int k, Part part) {
            int more = part.length - lengthOf(k);
            if (!hasChunk(k) || more > data.room()) {
                return;
            }
            data.splice(starts[k], lengthOf(k), part);
            for (int j = k + 1; j <= chunks; j++) {
                starts[j] += more;
            }
        }

        /** The numbers of the CHUNKS behind are one less then, in the ENTRIES too. */
        void takeChunk(int k) {
            if (!hasChunk(k)) {
                return;
            }
            setData(k, new Part(data, 0, 0));
            chunks--;
            for (int j = k; j < chunks; j++) {
                kinds[j] = kinds[j + 1];
                starts[j] = starts[j + 1];
            }
            starts[chunks] = data.length;
            for (int i = 0; i < entries; i++) {
                if (targets[i] > k) {
                    targets[i]--;
                }
            }
        }

        void takeEntry(int i) {
            if (!hasEntry(i)) {
                return;
            }
            entries--;
            for (int j = i; j < entries; j++) {
                uses[j] = uses[j + 1];
                numbers[j] = numbers[j + 1];
                targets[j] = targets[j + 1];
            }
        }

        void writeTo(Row row) {
            row.append(4, Kinds.FORM);
            row.append(4, placeOf(chunks) - PIECE_HEAD);
            row.append(4, Kinds.IFRS);
            row.append(4, Kinds.RIDX);
            row.append(4, 4 + ENTRY_OCTETS * entries);
            row.append(4, entries);
            for (int i = 0; i < entries; i++) {
                row.append(4, uses[i]);
                row.append(4, numbers[i]);
                row.append(4, placeOf(targets[i]));
            }
            for (int k = 0; k < chunks; k++) {
                row.append(4, kinds[k]);
                row.append(4, lengthOf(k));
                row.splice(row.length, 0, dataOf(k));
                row.append(lengthOf(k) & 1, 0);
            }
        }
    }

    /** Looks for the first FAULT of a FILE, before anything of it goes into THE HOUSE. */
    private static final class Judge {
        static final int FIRST_PIECE = 12;
        static final int INDEX_LENGTH_AT = 16;
        static final int INDEX_COUNT_AT = 20;

        static final int CUT_OFF = 1, WRONG_KIND = 2, WRONG_FORM_LENGTH = 3, TOO_LONG = 4,
            ODD_NOT_ZERO = 5, WRONG_INDEX_LENGTH = 6, WRONG_USE = 7, WRONG_PLACE = 8,
            SAME_NAME = 9, TOO_MUCH = 10;

        /** Where the PIECES behind RIdx stand in the FILE that was judged last. */
        final int[] places;
        int pieces;
        int faultAt;

        Judge() {
            places = new int[MOST_CHUNKS];
            pieces = 0;
            faultAt = NONE;
        }

        /** The number of the first FAULT, 0 if there is none. */
        int faultOf(Part file) {
            pieces = 0;
            faultAt = NONE;
            int fault = faultOfHead(file);
            if (fault == 0) {
                fault = faultOfPieces(file);
            }
            if (fault == 0) {
                fault = faultOfIndex(file);
            }
            return fault;
        }

        private int fail(int fault, int at) {
            faultAt = at;
            return fault;
        }

        private int faultOfHead(Part file) {
            if (file.length < FIRST_PIECE) {
                return fail(CUT_OFF, file.length);
            }
            if (file.u4(0) != Kinds.FORM) {
                return fail(WRONG_KIND, 0);
            }
            if (file.u4(4) != file.length - PIECE_HEAD) {
                return fail(WRONG_FORM_LENGTH, 4);
            }
            if (file.u4(8) != Kinds.IFRS) {
                return fail(WRONG_KIND, 8);
            }
            return 0;
        }

        private int faultOfPieces(Part file) {
            int at = FIRST_PIECE;
            int fault = faultOfPiece(file, at);
            // One round more than there may be CHUNKS, as the one too many is a FAULT of its own.
            for (int round = 0; round <= MOST_CHUNKS && fault == 0; round++) {
                at = behindPiece(file, at);
                if (at >= file.length) {
                    return 0;
                }
                fault = faultOfPiece(file, at);
                if (fault == 0 && pieces < MOST_CHUNKS) {
                    places[pieces] = at;
                    pieces++;
                }
            }
            return fault;
        }

        private int faultOfPiece(Part file, int at) {
            if (!file.holds(at, PIECE_HEAD)) {
                return fail(CUT_OFF, file.length);
            }
            int kind = (int) file.u4(at);
            boolean isIndex = kind == Kinds.RIDX;
            if (!Kinds.isKind(kind) || isIndex != (at == FIRST_PIECE)) {
                return fail(WRONG_KIND, at);
            }
            if (pieces >= MOST_CHUNKS) {
                return fail(TOO_MUCH, at);
            }
            long octets = file.u4(at + 4);
            long odd = octets & 1;
            if (octets + odd > file.length - at - PIECE_HEAD) {
                return fail(TOO_LONG, at + 4);
            }
            int end = at + PIECE_HEAD + (int) octets;
            if (odd == 1 && file.at(end) != 0) {
                return fail(ODD_NOT_ZERO, end);
            }
            return 0;
        }

        /** Only of a PIECE without a FAULT: its length is within the FILE then. */
        private int behindPiece(Part file, int at) {
            int octets = (int) file.u4(at + 4);
            return at + PIECE_HEAD + octets + (octets & 1);
        }

        private int faultOfIndex(Part file) {
            long octets = file.u4(INDEX_LENGTH_AT);
            if (octets < 4 || octets != 4 + ENTRY_OCTETS * file.u4(INDEX_COUNT_AT)) {
                return fail(WRONG_INDEX_LENGTH, INDEX_LENGTH_AT);
            }
            long count = file.u4(INDEX_COUNT_AT);
            int fault = 0;
            for (int i = 0; i < count && i <= MOST_ENTRIES && fault == 0; i++) {
                fault = faultOfEntry(file, i);
            }
            return fault;
        }

        private int faultOfEntry(Part file, int i) {
            int at = HEAD + ENTRY_OCTETS * i;
            if (i >= MOST_ENTRIES) {
                return fail(TOO_MUCH, at);
            }
            if (!Kinds.isUse((int) file.u4(at))) {
                return fail(WRONG_USE, at);
            }
            for (int j = 0; j < i; j++) {
                int before = HEAD + ENTRY_OCTETS * j;
                if (file.u4(before) == file.u4(at) && file.u4(before + 4) == file.u4(at + 4)) {
                    return fail(SAME_NAME, at);
                }
            }
            if (pieceAt(file.u4(at + 8)) < 0) {
                return fail(WRONG_PLACE, at + 8);
            }
            return 0;
        }

        private int pieceAt(long place) {
            for (int k = 0; k < pieces; k++) {
                if (places[k] == place) {
                    return k;
                }
            }
            return NONE;
        }

        /** Only of the FILE that was judged last, and had no FAULT. */
        void moveInto(House house, Part file) {
            house.empty();
            for (int k = 0; k < pieces; k++) {
                int at = places[k];
                int octets = (int) file.u4(at + 4);
                Part data = new Part(file.row, file.from + at + PIECE_HEAD, octets);
                house.addChunk((int) file.u4(at), data);
            }
            long count = file.u4(INDEX_COUNT_AT);
            for (int i = 0; i < count && i < MOST_ENTRIES; i++) {
                int at = HEAD + ENTRY_OCTETS * i;
                house.addEntry((int) file.u4(at), file.u4(at + 4), pieceAt(file.u4(at + 8)));
            }
        }
    }

    /** WIDE (axis 0) and HIGH (axis 1) of a picture. */
    private static final class Pictures {
        static final long PNG_FIRST = 137L << 24 | 80 << 16 | 78 << 8 | 71;
        static final long PNG_SECOND = 13 << 24 | 10 << 16 | 26 << 8 | 10;
        static final int JPEG_FIRST = 255 << 8 | 216;

        static long measure(int kind, Part data, int axis) {
            switch (kind) {
                case Kinds.RECT: return ofRect(data, axis);
                case Kinds.PNG: return ofPng(data, axis);
                case Kinds.JPEG: return ofJpeg(data, axis);
                default: return NONE;
            }
        }

        private static long ofRect(Part data, int axis) {
            return data.length >= 8 ? data.u4(4 * axis) : NONE;
        }

        private static long ofPng(Part data, int axis) {
            boolean isPng = data.length >= 24 && data.u4(0) == PNG_FIRST
                && data.u4(4) == PNG_SECOND && data.u4(12) == Kinds.IHDR;
            return isPng ? data.u4(16 + 4 * axis) : NONE;
        }

        private static long ofJpeg(Part data, int axis) {
            if (data.u2(0) != JPEG_FIRST) {
                return NONE;
            }
            int at = 2;
            // A MARK takes an octet at least, so there are no more of them than octets.
            for (int left = data.length; left > 0; left--) {
                if (data.at(at) != 255) {
                    return NONE;
                }
                at = behindFill(data, at);
                int mark = data.at(at);
                at++;
                if (standsAlone(mark)) {
                    continue;
                }
                int octets = data.u2(at);
                if (hasNoMeasure(mark) || octets < 2) {
                    return NONE;
                }
                if (isFrame(mark)) {
                    return ofFrame(data, at, axis);
                }
                at += octets;
            }
            return NONE;
        }

        private static int behindFill(Part data, int from) {
            int at = from;
            while (at < data.length && data.at(at) == 255) {
                at++;
            }
            return at;
        }

        private static boolean standsAlone(int mark) {
            return mark == 1 || mark >= 208 && mark <= 215;
        }

        /** -1 is a MARK that the DATA has no octet for. */
        private static boolean hasNoMeasure(int mark) {
            return mark == 216 || mark == 217 || mark == 0 || mark == -1;
        }

        private static boolean isFrame(int mark) {
            return mark >= 192 && mark <= 207 && mark != 196 && mark != 200 && mark != 204;
        }

        /** At is the frame's u2; both measures must be there, whichever is asked for. */
        private static long ofFrame(Part data, int at, int axis) {
            if (data.u2(at) < 7 || !data.holds(at, 7)) {
                return NONE;
            }
            return axis == 0 ? data.u2(at + 5) : data.u2(at + 3);
        }
    }

    /** CHANNELS (0), FRAMES (1), BITS (2), RATE (3) of the DATA of a "FORM". */
    private static final class Sounds {
        static final int COMM_OCTETS = 18;
        static final int MOST_EXPONENT = 16445;

        static long measure(Part data, int what) {
            if (data.u4(0) != Kinds.AIFF) {
                return NONE;
            }
            int at = 4;
            // A PIECE takes an octet at least, so there are no more of them than octets.
            for (int left = data.length; left > 0 && data.holds(at, PIECE_HEAD); left--) {
                long octets = data.u4(at + 4);
                if (octets > data.length - at - PIECE_HEAD) {
                    return NONE;
                }
                at += PIECE_HEAD;
                if (data.u4(at - PIECE_HEAD) == Kinds.COMM && octets >= COMM_OCTETS) {
                    return ofComm(data, at, what);
                }
                at += (int) (octets + (octets & 1));
            }
            return NONE;
        }

        private static long ofComm(Part data, int at, int what) {
            switch (what) {
                case 0: return data.u2(at);
                case 1: return data.u4(at + 2);
                case 2: return data.u2(at + 6);
                case 3: return rate(data, at + 8);
                default: return NONE;
            }
        }

        private static long rate(Part data, int at) {
            int exponent = data.u2(at);
            if (exponent > MOST_EXPONENT) {
                return NONE;
            }
            int shift = MOST_EXPONENT + 1 - exponent;
            long mantissa = data.u4(at + 2) << 32 | data.u4(at + 6);
            // Java shifts by the lowest six bits of a number alone.
            return shift > 63 ? 0 : mantissa >>> shift;
        }
    }

    /** SIZES ON A WINDOW: what a "Reso" has on a picture. */
    private static final class Windows {
        static final int RESO_HEAD = 24;
        static final int RESO_ROW = 28;

        /** Where a "Reso" has a NUMBER; NONE if it has not, or is not formed as it must be. */
        static int rowOf(Part reso, long number) {
            if (reso.length < RESO_HEAD || (reso.length - RESO_HEAD) % RESO_ROW != 0) {
                return NONE;
            }
            for (int row = RESO_HEAD; row < reso.length; row += RESO_ROW) {
                if (reso.u4(row) == number) {
                    return row;
                }
            }
            return NONE;
        }

        /** The RATIO on a window; one that is not proper if there is no size. */
        static Ratio ratioOn(Part reso, int row, int wx, int wy) {
            Ratio across = new Ratio(wx, reso.u4(0));
            Ratio down = new Ratio(wy, reso.u4(4));
            Ratio standard = ratioAt(reso, row + 4);
            Ratio least = ratioAt(reso, row + 12);
            Ratio greatest = ratioAt(reso, row + 20);
            if (!across.isUsable() || !down.isUsable() || !standard.isUsable()
                || !least.isLimit() || !greatest.isLimit()) {
                return new Ratio(0, 0);
            }
            Ratio room = down.isBelow(across) ? down : across;
            Ratio ratio = room.times(standard);
            if (!least.isNothing() && ratio.isBelow(least)) {
                return least;
            }
            return !greatest.isNothing() && greatest.isBelow(ratio) ? greatest : ratio;
        }

        private static Ratio ratioAt(Part reso, int at) {
            return new Ratio(reso.u4(at), reso.u4(at + 4));
        }
    }

    /** An exact ratio; products stay within a long, as no number of a usable one is above 65535. */
    private static final class Ratio {
        final long above;
        final long below;

        Ratio(long above, long below) {
            this.above = above;
            this.below = below;
        }

        boolean isNothing() {
            return above == 0 && below == 0;
        }

        boolean isProper() {
            return above >= 0 && below > 0;
        }

        boolean isUsable() {
            return isProper() && above <= MOST_SIDE && below <= MOST_SIDE;
        }

        boolean isLimit() {
            return isNothing() || isUsable();
        }

        boolean isBelow(Ratio other) {
            return above * other.below < other.above * below;
        }

        Ratio times(Ratio other) {
            return new Ratio(above * other.above, below * other.below);
        }

        long of(long measure) {
            return below > 0 ? measure * above / below : NONE;
        }
    }
}
