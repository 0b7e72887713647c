/** Promises 17 add, 18 mean, 19 change, 20 drop, 21 remove. */
public final class ChangeTest {
    private static final Due due = new Due();
    private static final int BAD = BlorbRows.BAD;
    private static final int NONE = BlorbRows.NONE;
    private static final int TAKEN = BlorbRows.TAKEN;
    private static final int FULL = BlorbRows.FULL;
    private static final int PICT = Octets.kind("Pict");
    private static final int SND = Octets.kind("Snd ");
    private static final int DATA = Octets.kind("Data");
    private static final int TEXT = Octets.kind("TEXT");
    private static final int[] EXTREMES = {-1, 3, 60, Integer.MAX_VALUE, Integer.MIN_VALUE};

    public static void main(String[] args) {
        add();
        addNoKind();
        addTooMany();
        addTooLong();
        mean();
        meanFull();
        change();
        changeFull();
        drop();
        dropRefusals();
        remove();
        numbersFollow();
        due.end("ChangeTest");
    }

    private static BlorbRows three() {
        BlorbRows x = new BlorbRows();
        Calls.add(x, "AAAA", Octets.of(1, 2, 3));
        Calls.add(x, "BBBB", Octets.of(4, 5));
        Calls.add(x, "CCCC", Octets.of(6));
        return x;
    }

    /** The HOUSE as its kinds' first letters and octets, as in "A123 B45 C6". */
    private static String shown(BlorbRows x) {
        StringBuilder text = new StringBuilder();
        for (int k = 0; k < x.told(0); k++) {
            text.append(k == 0 ? "" : " ").append((char) (x.chunk(k, 0) >>> 24));
            for (int i = 0; i < x.chunk(k, 1); i++) {
                text.append(x.octet(k, i));
            }
        }
        return text.toString();
    }

    private static void shows(String name, BlorbRows x, String want) {
        String got = shown(x);
        due.isTrue(name + ": " + got + ", due is " + want, got.equals(want));
    }

    private static void add() {
        BlorbRows x = new BlorbRows();
        x.feed(3, 0x010203);
        due.is("first", x.add(TEXT), 0);
        due.is("the tape is empty", x.told(3), 0);
        due.is("of an empty tape", x.add(Octets.kind("    ")), 1);
        due.is("its length", x.chunk(1, 1), 0);
        x.feed(1, 9);
        due.is("third", x.add(Octets.kind("~~~~")), 2);
        due.is("its octet", x.octet(2, 0), 9);
        due.is("its kind", x.chunk(2, 0), 0x7E7E7E7E);
        due.is("the first stays", x.octet(0, 2), 3);
        due.is("no entries", x.told(1), 0);
    }

    private static void addNoKind() {
        BlorbRows x = new BlorbRows();
        x.feed(2, 5);
        int[] none = {0, -1, Octets.kind("RIdx"), Octets.kind("\37EXT"), Octets.kind("T\37XT"), Octets.kind("TE\37T"),
            Octets.kind("TEX\37"), Octets.kind("\177EXT"), Octets.kind("T\177XT"), Octets.kind("TE\177T"),
            Octets.kind("TEX\177"), Octets.kind("\u00d4EXT"), Integer.MIN_VALUE, Integer.MAX_VALUE};
        for (int kind : none) {
            due.is("no kind " + kind, x.add(kind), BAD);
        }
        due.is("the tape stays", x.told(3), 2);
        due.is("no chunks", x.told(0), 0);
        due.is("FORM is one", x.add(Octets.kind("FORM")), 0);
    }

    private static void addTooMany() {
        BlorbRows x = new BlorbRows();
        for (int k = 0; k < 60; k++) {
            x.feed(1, k);
            due.is("add " + k, x.add(TEXT), k);
        }
        x.feed(1, 1);
        due.is("the 61st", x.add(TEXT), FULL);
        due.is("the tape stays", x.told(3), 1);
        due.is("60 stay", x.told(0), 60);
        due.is("BAD ahead of FULL", x.add(0), BAD);
        x.remove(30);
        due.is("one went, one comes", x.add(TEXT), 59);
        due.is("what was behind it", x.octet(30, 0), 31);
        due.is("what came", x.octet(59, 0), 1);
    }

    private static BlorbRows nearlyFull() {
        // 5900 and 5932 octets of DATA: 168 go.
        BlorbRows x = new BlorbRows();
        Calls.fillTape(x, 5900);
        x.add(TEXT);
        x.write();
        x.back();
        x.add(TEXT);
        return x;
    }

    private static void addTooLong() {
        BlorbRows x = nearlyFull();
        due.is("octets", x.told(2), 11832);
        Calls.feed(x, new Octets().zeros(169));
        due.is("169 more", x.add(TEXT), FULL);
        due.is("the tape stays", x.told(3), 169);
        due.is("two stay", x.told(0), 2);
        x.cut(168);
        due.is("168 more", x.add(TEXT), 2);
        due.is("all octets", x.told(2), 12000);
        due.is("of an empty tape", x.add(TEXT), 3);
        x.feed(1, 1);
        due.is("one more", x.add(TEXT), FULL);
        due.is("BAD ahead of FULL", x.add(Octets.kind("RIdx")), BAD);
        due.is("write()", x.write(), 24 + 4 * 8 + 12000);
    }

    private static void mean() {
        BlorbRows x = three();
        due.is("first", x.mean(PICT, 0, 2), 0);
        due.is("the same number, another use", x.mean(SND, 0, 0), 1);
        due.is("the greatest number", x.mean(PICT, 4294967295L, 2), 2);
        due.is("what the first means", x.entry(0, 2), 2);
        due.is("what the second means", x.entry(1, 2), 0);
        due.is("taken", x.mean(PICT, 0, 2), TAKEN);
        due.is("taken, with another chunk", x.mean(PICT, 0, 1), TAKEN);
        due.is("a number below 0", x.mean(PICT, -1, 0), BAD);
        due.is("a number above u4", x.mean(PICT, 4294967296L, 0), BAD);
        due.is("no use", x.mean(TEXT, 1, 0), BAD);
        due.is("no use: 0", x.mean(0, 1, 0), BAD);
        for (int wrong : EXTREMES) {
            due.is("no chunk " + wrong, x.mean(PICT, 1, wrong), BAD);
            due.is("BAD ahead of TAKEN " + wrong, x.mean(PICT, 0, wrong), BAD);
        }
        due.is("three entries", x.told(1), 3);
        due.is("the tape does not count", x.told(3), 0);
    }

    private static void meanFull() {
        BlorbRows x = three();
        for (int i = 0; i < 40; i++) {
            due.is("mean " + i, x.mean(DATA, i, i % 3), i);
        }
        due.is("the 41st", x.mean(DATA, 40, 0), FULL);
        due.is("TAKEN ahead of FULL", x.mean(DATA, 39, 0), TAKEN);
        due.is("BAD ahead of all", x.mean(DATA, 39, 3), BAD);
        due.is("40 stay", x.told(1), 40);
        due.is("one goes", x.drop(DATA, 0), 0);
        due.is("one comes", x.mean(DATA, 40, 0), 39);
        due.is("the last one's number", x.entry(39, 1), 40);
        due.is("the first one's number", x.entry(0, 1), 1);
    }

    private static void change() {
        BlorbRows x = three();
        due.is("longer", Calls.change(x, 1, Octets.of(7, 7, 7, 7)), 2);
        shows("longer", x, "A123 B7777 C6");
        due.is("the tape is empty", x.told(3), 0);
        due.is("shorter", Calls.change(x, 0, Octets.of(8)), 3);
        shows("shorter", x, "A8 B7777 C6");
        due.is("of the same length", Calls.change(x, 2, Octets.of(9)), 1);
        shows("the same length", x, "A8 B7777 C9");
        due.is("to none", x.change(1), 4);
        shows("to none", x, "A8 B C9");
        due.is("from none", Calls.change(x, 1, Octets.of(1, 2)), 0);
        shows("from none", x, "A8 B12 C9");
        due.is("the last one", Calls.change(x, 2, Octets.of(3, 4)), 1);
        shows("the last one", x, "A8 B12 C34");
        due.is("octets", x.told(2), 5);
        x.feed(1, 1);
        for (int wrong : EXTREMES) {
            due.is("no chunk " + wrong, x.change(wrong), BAD);
        }
        due.is("the tape stays", x.told(3), 1);
        x.mean(DATA, 1, 2);
        x.change(0);
        due.is("entries stay", x.find(DATA, 1), 2);
    }

    private static void changeFull() {
        BlorbRows x = nearlyFull();
        x.feed(8, 1);
        x.add(TEXT);
        due.is("octets", x.told(2), 11840);
        Calls.feed(x, new Octets().zeros(169));
        due.is("169 for 8", x.change(2), FULL);
        due.is("the tape stays", x.told(3), 169);
        due.is("the chunk stays", x.octet(2, 7), 1);
        due.is("BAD ahead of FULL", x.change(3), BAD);
        x.cut(168);
        due.is("168 for 8", x.change(2), 8);
        due.is("all octets", x.told(2), 12000);
        Calls.feed(x, new Octets().zeros(168));
        due.is("168 for 168", x.change(2), 168);
        due.is("none for 5900", x.change(0), 5900);
        due.is("fewer octets", x.told(2), 6100);
    }

    private static void drop() {
        BlorbRows x = three();
        x.mean(PICT, 1, 1);
        x.mean(SND, 1, 1);
        x.mean(DATA, 1, 2);
        x.mean(DATA, 2, 0);
        x.feed(1, 1);
        due.is("another means it", x.drop(PICT, 1), 0);
        shows("it stays", x, "A123 B45 C6");
        due.is("entries", x.told(1), 3);
        due.is("none means it", x.drop(SND, 1), 1);
        shows("it went", x, "A123 C6");
        due.is("the number behind is one less", x.find(DATA, 1), 1);
        due.is("the number ahead stays", x.find(DATA, 2), 0);
        due.is("entries are in order", x.entry(1, 1), 2);
        due.is("octets", x.told(2), 4);
        due.is("the tape stays", x.told(3), 1);
        due.is("the last chunk", x.drop(DATA, 1), 1);
        due.is("the only one", x.drop(DATA, 2), 1);
        due.is("none left", x.told(0), 0);
        due.is("no octets left", x.told(2), 0);
    }

    private static void dropRefusals() {
        BlorbRows x = three();
        x.mean(PICT, 1, 1);
        due.is("no such number", x.drop(PICT, 2), NONE);
        due.is("no such use", x.drop(SND, 1), NONE);
        due.is("no use", x.drop(TEXT, 1), BAD);
        due.is("below 0", x.drop(PICT, -1), BAD);
        due.is("above u4", x.drop(PICT, 4294967297L), BAD);
        due.is("entries stay", x.told(1), 1);
        due.is("chunks stay", x.told(0), 3);
        due.is("it goes", x.drop(PICT, 1), 1);
        due.is("it went", x.drop(PICT, 1), NONE);
    }

    private static void remove() {
        BlorbRows x = three();
        x.mean(PICT, 1, 1);
        x.mean(PICT, 2, 2);
        for (int wrong : EXTREMES) {
            due.is("no chunk " + wrong, x.remove(wrong), BAD);
        }
        due.is("taken", x.remove(1), TAKEN);
        shows("it stays", x, "A123 B45 C6");
        due.is("free", x.remove(0), 3);
        shows("it went", x, "B45 C6");
        due.is("1 means the same", x.find(PICT, 1), 0);
        due.is("2 means the same", x.find(PICT, 2), 1);
        due.is("octets", x.told(2), 3);
        due.is("taken again", x.remove(0), TAKEN);
        Calls.add(x, "DDDD", Octets.of());
        due.is("an empty one", x.remove(2), 0);
        due.is("none there", x.remove(2), BAD);
    }

    private static void numbersFollow() {
        BlorbRows x = three();
        x.mean(DATA, 3, 2);
        x.mean(DATA, 1, 0);
        x.remove(1);
        due.is("behind", x.entry(0, 2), 1);
        due.is("ahead", x.entry(1, 2), 0);
        Calls.add(x, "DDDD", Octets.of(7, 8));
        shows("put in behind", x, "A123 C6 D78");
        Calls.change(x, 1, Octets.of(9, 9, 9));
        shows("changed within", x, "A123 C999 D78");
        due.is("the place of the last", x.chunk(2, 2), 24 + 24 + 12 + 12);
    }
}
