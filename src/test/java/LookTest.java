/** Promises 7 chunk, 8 octet, 9 entry, 10 find: a method for each sentence that names an edge. */
public final class LookTest {
    private static final Due due = new Due();
    private static final int BAD = BlorbRows.BAD;
    private static final int NONE = BlorbRows.NONE;
    private static final int PICT = Octets.kind("Pict");
    private static final int SND = Octets.kind("Snd ");
    private static final int DATA = Octets.kind("Data");
    private static final int EXEC = Octets.kind("Exec");
    private static final int[] EXTREMES = {-1, 4, 60, 61, Integer.MAX_VALUE - 1, Integer.MAX_VALUE, Integer.MIN_VALUE};

    public static void main(String[] args) {
        kindOfAChunk();
        kindsFirstOctetIsHighest();
        lengthOfAChunk();
        whereAChunkStands();
        whereTheLastOfManyStands();
        howManyMeanAChunk();
        chunkThatIsNotThere();
        nothingThatAChunkTells();
        firstAndLastOctet();
        octetThatIsNotThere();
        octetOfNoChunk();
        octetIsWithoutSign();
        useAndNumberOfAnEntry();
        chunkOfAnEntry();
        entryThatIsNotThere();
        nothingThatAnEntryTells();
        pictGoes();
        soundGoes();
        soundGoesWithAiffFirst();
        dataGoes();
        execGoes();
        goesFollowsTheData();
        findWhatIsMeant();
        findNoUse();
        findNoNumber();
        findNone();
        findBadAheadOfNone();
        due.end("LookTest");
    }

    /** CHUNKS of 8, 3, 0, 1 octets; ENTRIES that mean the first once, the last twice. */
    private static BlorbRows house() {
        BlorbRows x = new BlorbRows();
        Calls.add(x, "Rect", new Octets().u4(1, 2));
        Calls.add(x, "TEXT", Octets.of(200, 201, 255));
        Calls.add(x, "TEXT", Octets.of());
        Calls.add(x, "BINA", Octets.of(7));
        x.mean(PICT, 4294967295L, 0);
        x.mean(DATA, 0, 3);
        x.mean(EXEC, 9, 3);
        return x;
    }

    private static void eachChunkTells(int what, int... want) {
        BlorbRows x = house();
        for (int k = 0; k < want.length; k++) {
            due.is("chunk(" + k + ", " + what + ")", x.chunk(k, what), want[k]);
        }
    }

    private static void kindOfAChunk() {
        due.promise(7, "0 its KIND");
        eachChunkTells(0, Octets.kind("Rect"), Octets.kind("TEXT"), Octets.kind("TEXT"), Octets.kind("BINA"));
    }

    private static void kindsFirstOctetIsHighest() {
        due.promise(7, "A KIND is told as an int, the first one highest (\"Pict\" is 0x50696374 or 1349084020)");
        BlorbRows x = new BlorbRows();
        Octets index = new Octets().piece("RIdx", new Octets().u4(0));
        Calls.read(x, Octets.form(index.piece("Pict", Octets.of()).piece("    ", Octets.of()).piece("~~~~", Octets.of())));
        due.is("Pict", x.chunk(0, 0), 1349084020);
        due.is("the least", x.chunk(1, 0), 0x20202020);
        due.is("the greatest", x.chunk(2, 0), 0x7E7E7E7E);
    }

    private static void lengthOfAChunk() {
        due.promise(7, "1 how many octets its DATA has");
        eachChunkTells(1, 8, 3, 0, 1);
        BlorbRows x = new BlorbRows();
        Calls.fillTape(x, 6000);
        x.add(Octets.kind("TEXT"));
        due.is("of 6000", x.chunk(0, 1), 6000);
    }

    private static void whereAChunkStands() {
        due.promise(7, "2 where it stands in what is WRITTEN");
        eachChunkTells(2, 60, 76, 88, 96);
        BlorbRows x = house();
        x.drop(EXEC, 9);
        due.is("an entry less", x.chunk(3, 2), 84);
        x.remove(2);
        due.is("an empty chunk less", x.chunk(2, 2), 76);
        x.remove(1);
        due.is("an odd chunk less", x.chunk(1, 2), 64);
        x.write();
        due.is("its KIND is there in OUT", x.out(64), 'B');
        BlorbRows y = new BlorbRows();
        Calls.add(y, "TEXT", Octets.of());
        due.is("the first without entries", y.chunk(0, 2), 24);
    }

    private static void whereTheLastOfManyStands() {
        due.promise(7, "2 where it stands in what is WRITTEN");
        BlorbRows x = Calls.greatestHouse();
        due.is("the first of 60", x.chunk(0, 2), 24 + 480);
        due.is("the last of 60", x.chunk(59, 2), 13044 - 30);
    }

    private static void howManyMeanAChunk() {
        due.promise(7, "3 how many ENTRIES mean it");
        eachChunkTells(3, 1, 0, 0, 2);
        BlorbRows x = house();
        x.drop(EXEC, 9);
        due.is("one less", x.chunk(3, 3), 1);
        for (int i = 0; i < 38; i++) {
            x.mean(SND, i, 1);
        }
        due.is("38", x.chunk(1, 3), 38);
    }

    private static void chunkThatIsNotThere() {
        due.promise(7, "BAD: there is no such thing");
        BlorbRows x = house();
        for (int wrong : EXTREMES) {
            for (int what = 0; what < 4; what++) {
                due.is("chunk(" + wrong + ", " + what + ")", x.chunk(wrong, what), BAD);
            }
        }
        x.remove(2);
        due.is("the number of one that went", x.chunk(3, 0), BAD);
    }

    private static void nothingThatAChunkTells() {
        due.promise(7, "BAD: a number is not as told");
        BlorbRows x = house();
        for (int wrong : EXTREMES) {
            due.is("chunk(0, " + wrong + ")", x.chunk(0, wrong), BAD);
        }
    }

    private static void firstAndLastOctet() {
        due.promise(8, "Octet i of a CHUNK's DATA");
        BlorbRows x = house();
        due.is("the first", x.octet(1, 0), 200);
        due.is("the last", x.octet(1, 2), 255);
        due.is("of the first chunk", x.octet(0, 0), 0);
        due.is("of the first chunk, the last", x.octet(0, 7), 2);
        due.is("of the last chunk", x.octet(3, 0), 7);
        BlorbRows y = Calls.greatestHouse();
        due.is("of 12000 the last", y.octet(59, 20), 255);
        due.is("behind it", y.octet(59, 21), BAD);
    }

    private static void octetThatIsNotThere() {
        due.promise(8, "BAD");
        BlorbRows x = house();
        due.is("behind the last", x.octet(1, 3), BAD);
        due.is("ahead of the first, where another chunk is", x.octet(1, -1), BAD);
        due.is("of an empty one", x.octet(2, 0), BAD);
        due.is("of an empty one, the one before", x.octet(2, -1), BAD);
        due.is("behind everything", x.octet(3, 1), BAD);
        for (int wrong : EXTREMES) {
            due.is("octet(1, " + wrong + ")", x.octet(1, wrong), BAD);
        }
    }

    private static void octetOfNoChunk() {
        due.promise(8, "BAD");
        BlorbRows x = house();
        for (int wrong : EXTREMES) {
            due.is("octet(" + wrong + ", 0)", x.octet(wrong, 0), BAD);
        }
        due.is("of an empty house", new BlorbRows().octet(0, 0), BAD);
    }

    private static void octetIsWithoutSign() {
        due.promise(8, "Octet i of a CHUNK's DATA");
        BlorbRows x = new BlorbRows();
        Calls.add(x, "TEXT", Octets.of(0, 127, 128, 255));
        int[] want = {0, 127, 128, 255};
        for (int i = 0; i < 4; i++) {
            due.is("octet(0, " + i + ")", x.octet(0, i), want[i]);
        }
    }

    private static void eachEntryTells(int what, long... want) {
        BlorbRows x = house();
        for (int i = 0; i < want.length; i++) {
            due.is("entry(" + i + ", " + what + ")", x.entry(i, what), want[i]);
        }
    }

    private static void useAndNumberOfAnEntry() {
        due.promise(9, "0 its USE, 1 its NUMBER (a u4)");
        eachEntryTells(0, PICT, DATA, EXEC);
        eachEntryTells(1, 4294967295L, 0, 9);
        BlorbRows x = house();
        x.mean(SND, 0x80000000L, 1);
        due.is("a number of 2 to the power of 31", x.entry(3, 1), 0x80000000L);
    }

    private static void chunkOfAnEntry() {
        due.promise(9, "2 its CHUNK");
        eachEntryTells(2, 0, 3, 3);
        BlorbRows x = house();
        x.remove(1);
        due.is("it is one less when one ahead went", x.entry(1, 2), 2);
        due.is("it stays when one behind went", x.entry(0, 2), 0);
    }

    private static void entryThatIsNotThere() {
        due.promise(9, "BAD: there is no such thing");
        BlorbRows x = house();
        due.is("entry(3, 0)", x.entry(3, 0), BAD);
        due.is("entry(40, 0)", x.entry(40, 0), BAD);
        for (int wrong : EXTREMES) {
            for (int what = 0; what < 4; what++) {
                due.is("entry(" + wrong + ", " + what + ")", x.entry(wrong, what), BAD);
            }
        }
        BlorbRows y = Calls.greatestHouse();
        due.is("the 40th", y.entry(39, 1), 39);
        due.is("the 41st", y.entry(40, 1), BAD);
    }

    private static void nothingThatAnEntryTells() {
        due.promise(9, "BAD: a number is not as told");
        BlorbRows x = house();
        for (int wrong : EXTREMES) {
            due.is("entry(0, " + wrong + ")", x.entry(0, wrong), BAD);
        }
    }

    private static void goes(String use, String kind, Octets data, int want) {
        BlorbRows x = new BlorbRows();
        Calls.add(x, kind, data);
        x.mean(Octets.kind(use), 1, 0);
        due.is(use + " and " + kind, x.entry(0, 3), want);
    }

    /** Every KIND that the document names, and some that it does not. */
    private static void goesWithAlone(String use, String... fits) {
        String[] kinds = {"PNG ", "JPEG", "Rect", "FORM", "OGGV", "MOD ", "SONG", "TEXT", "BINA", "ZCOD", "GLUL", "Fspc",
            "RelN", "Plte", "Reso", "Pict", "Snd ", "Data", "Exec", "png ", "AIFF", "IFRS"};
        for (String kind : kinds) {
            goes(use, kind, Octets.of(), java.util.List.of(fits).contains(kind) ? 1 : 0);
        }
    }

    private static void pictGoes() {
        due.promise(9, "GOES: Pict: \"PNG \", \"JPEG\", \"Rect\"");
        goesWithAlone("Pict", "PNG ", "JPEG", "Rect");
    }

    private static void soundGoes() {
        due.promise(9, "GOES: Snd : \"OGGV\", \"MOD \", \"SONG\"");
        goesWithAlone("Snd ", "OGGV", "MOD ", "SONG");
    }

    private static void soundGoesWithAiffFirst() {
        due.promise(9, "GOES: Snd : \"FORM\" with \"AIFF\" first");
        goes("Snd ", "FORM", Octets.text("AIFF"), 1);
        goes("Snd ", "FORM", Octets.text("AIFFxyz"), 1);
        goes("Snd ", "FORM", Octets.text("AIF"), 0);
        goes("Snd ", "FORM", Octets.text("AIFC"), 0);
        goes("Snd ", "FORM", Octets.text("xAIFF"), 0);
        goes("Snd ", "FORM", Octets.of(), 0);
        goes("Snd ", "TEXT", Octets.text("AIFF"), 0);
        BlorbRows x = new BlorbRows();
        Calls.add(x, "FORM", Octets.text("AIF"));
        Calls.add(x, "TEXT", Octets.text("F"));
        x.mean(SND, 1, 0);
        due.is("the next chunk's octets do not count", x.entry(0, 3), 0);
    }

    private static void dataGoes() {
        due.promise(9, "GOES: Data: \"TEXT\", \"BINA\", \"FORM\"");
        goesWithAlone("Data", "TEXT", "BINA", "FORM");
        goes("Data", "FORM", Octets.text("AIFF"), 1);
    }

    private static void execGoes() {
        due.promise(9, "GOES: Exec: \"ZCOD\", \"GLUL\"");
        goesWithAlone("Exec", "ZCOD", "GLUL");
    }

    private static void goesFollowsTheData() {
        due.promise(9, "3 whether its USE and CHUNK GO (1, 0)");
        BlorbRows x = new BlorbRows();
        Calls.add(x, "FORM", Octets.text("AIFF"));
        x.mean(SND, 1, 0);
        due.is("as it was", x.entry(0, 3), 1);
        Calls.change(x, 0, Octets.of());
        due.is("changed", x.entry(0, 3), 0);
    }

    private static void findWhatIsMeant() {
        due.promise(10, "The CHUNK that a USE and a NUMBER mean");
        BlorbRows x = house();
        due.is("Pict, the greatest number", x.find(PICT, 4294967295L), 0);
        due.is("Data, the least number", x.find(DATA, 0), 3);
        due.is("Exec", x.find(EXEC, 9), 3);
        due.is("of 40 the last", Calls.greatestHouse().find(DATA, 39), 20);
    }

    private static void findNoUse() {
        due.promise(10, "BAD: no USE");
        BlorbRows x = house();
        String[] wrong = {"Rect", "pict", "snd ", "Snd_", "data", "exec", "    "};
        for (String use : wrong) {
            due.is("find(" + use + ", 9)", x.find(Octets.kind(use), 9), BAD);
        }
        int[] numbers = {0, -1, Integer.MIN_VALUE, Integer.MAX_VALUE};
        for (int use : numbers) {
            due.is("find(" + use + ", 9)", x.find(use, 9), BAD);
        }
    }

    private static void findNoNumber() {
        due.promise(10, "BAD: no NUMBER (a u4)");
        BlorbRows x = house();
        long[] wrong = {-1, 4294967296L, 9 + (1L << 32), Long.MAX_VALUE, Long.MIN_VALUE, Long.MIN_VALUE + 9};
        for (long number : wrong) {
            due.is("find(Exec, " + number + ")", x.find(EXEC, number), BAD);
        }
    }

    private static void findNone() {
        due.promise(10, "NONE");
        BlorbRows x = house();
        due.is("another use", x.find(SND, 9), NONE);
        due.is("another number", x.find(EXEC, 8), NONE);
        due.is("the greatest number", x.find(EXEC, 4294967295L), NONE);
        due.is("an empty house", new BlorbRows().find(PICT, 0), NONE);
        x.drop(EXEC, 9);
        due.is("one that went", x.find(EXEC, 9), NONE);
    }

    private static void findBadAheadOfNone() {
        due.promise(10, "REFUSALS are answers, the first that fits");
        BlorbRows x = new BlorbRows();
        due.is("no use", x.find(1, 1), BAD);
        due.is("no number", x.find(PICT, -1), BAD);
    }
}
