/** Promises 7 chunk, 8 octet, 9 entry, 10 find. */
public final class LookTest {
    private static final Due due = new Due();
    private static final int PICT = Octets.kind("Pict");
    private static final int SND = Octets.kind("Snd ");
    private static final int DATA = Octets.kind("Data");
    private static final int EXEC = Octets.kind("Exec");
    private static final int[] EXTREMES = {-1, 4, 60, Integer.MAX_VALUE, Integer.MIN_VALUE};

    public static void main(String[] args) {
        chunk();
        octet();
        entry();
        goes();
        find();
        due.end("LookTest");
    }

    private static BlorbRows house() {
        BlorbRows x = new BlorbRows();
        Calls.add(x, "Rect", new Octets().u4(1, 2));
        Calls.add(x, "TEXT", Octets.of(200, 201, 255));
        Calls.add(x, "TEXT", Octets.of());
        Calls.add(x, "BINA", Octets.of(7));
        x.mean(PICT, 4294967295L, 0);
        x.mean(DATA, 0, 3);
        x.mean(EXEC, 9, 3);
        return x;
    }

    private static void chunk() {
        BlorbRows x = house();
        String[] kinds = {"Rect", "TEXT", "TEXT", "BINA"};
        int[] lengths = {8, 3, 0, 1};
        int[] places = {60, 76, 88, 96};
        int[] meanings = {1, 0, 0, 2};
        for (int k = 0; k < 4; k++) {
            due.is("kind " + k, x.chunk(k, 0), Octets.kind(kinds[k]));
            due.is("length " + k, x.chunk(k, 1), lengths[k]);
            due.is("place " + k, x.chunk(k, 2), places[k]);
            due.is("meanings " + k, x.chunk(k, 3), meanings[k]);
        }
        x.drop(EXEC, 9);
        due.is("the place follows the entries", x.chunk(3, 2), 84);
        due.is("the meanings follow the entries", x.chunk(3, 3), 1);
        for (int wrong : EXTREMES) {
            due.is("chunk(" + wrong + ", 0)", x.chunk(wrong, 0), BlorbRows.BAD);
            due.is("chunk(0, " + wrong + ")", x.chunk(0, wrong), BlorbRows.BAD);
        }
    }

    private static void octet() {
        BlorbRows x = house();
        due.is("first", x.octet(1, 0), 200);
        due.is("last", x.octet(1, 2), 255);
        due.is("behind the last", x.octet(1, 3), BlorbRows.BAD);
        due.is("of none", x.octet(2, 0), BlorbRows.BAD);
        due.is("of the last chunk", x.octet(3, 0), 7);
        due.is("behind everything", x.octet(3, 1), BlorbRows.BAD);
        for (int wrong : EXTREMES) {
            due.is("octet(" + wrong + ", 0)", x.octet(wrong, 0), BlorbRows.BAD);
            due.is("octet(1, " + wrong + ")", x.octet(1, wrong), BlorbRows.BAD);
        }
    }

    private static void entry() {
        BlorbRows x = house();
        long[][] want = {{PICT, 4294967295L, 0, 1}, {DATA, 0, 3, 1}, {EXEC, 9, 3, 0}};
        for (int i = 0; i < 3; i++) {
            for (int what = 0; what < 4; what++) {
                due.is("entry(" + i + ", " + what + ")", x.entry(i, what), want[i][what]);
            }
        }
        due.is("entry(3, 0)", x.entry(3, 0), BlorbRows.BAD);
        for (int wrong : EXTREMES) {
            due.is("entry(" + wrong + ", 0)", x.entry(wrong, 0), BlorbRows.BAD);
            due.is("entry(0, " + wrong + ")", x.entry(0, wrong), BlorbRows.BAD);
        }
    }

    private static void goes() {
        String[] kinds = {"PNG ", "JPEG", "Rect", "FORM", "OGGV", "MOD ", "SONG", "TEXT", "BINA", "ZCOD", "GLUL", "Fspc"};
        String[] fits = {"Pict", "Pict", "Pict", "Data", "Snd ", "Snd ", "Snd ", "Data", "Data", "Exec", "Exec", ""};
        for (int i = 0; i < kinds.length; i++) {
            goes(kinds[i], Octets.of(), fits[i]);
        }
        goes("FORM", Octets.text("AIFF"), "Snd Data");
        goes("FORM", Octets.text("AIFFxyz"), "Snd Data");
        goes("FORM", Octets.text("AIF"), "Data");
        goes("FORM", Octets.text("AIFC"), "Data");
        goes("FORM", Octets.text("xAIFF"), "Data");
        goes("TEXT", Octets.text("AIFF"), "Data");
        goes("PNG ", Octets.text("AIFF"), "Pict");
    }

    private static void goes(String kind, Octets data, String fits) {
        BlorbRows x = new BlorbRows();
        Calls.add(x, kind, data);
        String[] uses = {"Pict", "Snd ", "Data", "Exec"};
        for (int i = 0; i < 4; i++) {
            x.mean(Octets.kind(uses[i]), 1, 0);
            due.is(uses[i] + " and " + kind, x.entry(i, 3), fits.contains(uses[i]) ? 1 : 0);
        }
    }

    private static void find() {
        BlorbRows x = house();
        due.is("Pict", x.find(PICT, 4294967295L), 0);
        due.is("Data", x.find(DATA, 0), 3);
        due.is("Exec", x.find(EXEC, 9), 3);
        due.is("no such use and number", x.find(SND, 9), BlorbRows.NONE);
        due.is("no such number", x.find(EXEC, 8), BlorbRows.NONE);
        due.is("a number below 0", x.find(PICT, -1), BlorbRows.BAD);
        due.is("a number above u4", x.find(PICT, 4294967296L), BlorbRows.BAD);
        due.is("the lowest octets alone do not count", x.find(EXEC, 9 + (1L << 32)), BlorbRows.BAD);
        due.is("a greatest number", x.find(PICT, Long.MAX_VALUE), BlorbRows.BAD);
        due.is("a least number", x.find(PICT, Long.MIN_VALUE), BlorbRows.BAD);
        due.is("no use", x.find(Octets.kind("Rect"), 9), BlorbRows.BAD);
        due.is("no use: 0", x.find(0, 9), BlorbRows.BAD);
        due.is("no use: -1", x.find(-1, 9), BlorbRows.BAD);
        due.is("an empty house", new BlorbRows().find(PICT, 1), BlorbRows.NONE);
    }
}
