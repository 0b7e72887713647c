/** Promises 17 add, 18 mean, 19 change, 20 drop, 21 remove: a method for each sentence that names an edge. */
public final class ChangeTest {
    private static final Due due = new Due();
    private static final int BAD = BlorbRows.BAD;
    private static final int NONE = BlorbRows.NONE;
    private static final int TAKEN = BlorbRows.TAKEN;
    private static final int FULL = BlorbRows.FULL;
    private static final int PICT = Octets.kind("Pict");
    private static final int SND = Octets.kind("Snd ");
    private static final int DATA = Octets.kind("Data");
    private static final int EXEC = Octets.kind("Exec");
    private static final int TEXT = Octets.kind("TEXT");
    private static final int[] NO_CHUNKS = {-1, 3, 60, Integer.MAX_VALUE, Integer.MIN_VALUE};
    private static final long[] NO_NUMBERS = {-1, 4294967296L, 4294967297L, Long.MAX_VALUE, Long.MIN_VALUE};
    private static final int[] NO_USES = {0, -1, TEXT, Octets.kind("pict"), Octets.kind("Snd_"), Integer.MIN_VALUE};

    public static void main(String[] args) {
        addComesBehind();
        addTakesTheTape();
        addOfAnEmptyTape();
        addNoKind();
        addRidx();
        addTheSixtyFirst();
        addTooManyOctets();
        addIsBadAheadOfFull();
        meanComesBehind();
        meanNumbers();
        meanNoUse();
        meanNoNumber();
        meanNoChunk();
        meanTaken();
        meanTheFortyFirst();
        meanInOrder();
        changeTakesTheTape();
        changeMovesWhatIsBehind();
        changeToAndFromNothing();
        changeAnswersHowManyItHad();
        changeKeepsKindAndEntries();
        changeNoChunk();
        changeTooManyOctets();
        changeInAFullHouse();
        changeIsBadAheadOfFull();
        dropTheEntryAlone();
        dropTheChunkToo();
        dropMovesWhatIsBehind();
        dropTheLast();
        dropNoUseOrNumber();
        dropNone();
        dropAmongForty();
        removeWhatNoneMeans();
        removeMovesWhatIsBehind();
        removeAnswersHowManyItHad();
        removeTaken();
        removeNoChunk();
        removeAmongForty();
        due.end("ChangeTest");
    }

    private static BlorbRows three() {
        BlorbRows x = new BlorbRows();
        Calls.add(x, "AAAA", Octets.of(1, 2, 3));
        Calls.add(x, "BBBB", Octets.of(4, 5));
        Calls.add(x, "CCCC", Octets.of(6));
        return x;
    }

    /** The HOUSE as its kinds' first letters and octets, as in "A123 B45 C6". */
    private static String shown(BlorbRows x) {
        StringBuilder text = new StringBuilder();
        for (int k = 0; k < x.told(0); k++) {
            text.append(k == 0 ? "" : " ").append((char) (x.chunk(k, 0) >>> 24));
            for (int i = 0; i < x.chunk(k, 1); i++) {
                text.append(x.octet(k, i));
            }
        }
        return text.toString();
    }

    private static void shows(String name, BlorbRows x, String want) {
        String got = shown(x);
        due.isTrue(name + ": " + got + ", due is " + want, got.equals(want));
    }

    private static void addComesBehind() {
        due.promise(17, "A CHUNK more, behind all others: its number");
        BlorbRows x = three();
        x.feed(2, 0x0809);
        due.is("add", x.add(Octets.kind("DDDD")), 3);
        shows("behind", x, "A123 B45 C6 D89");
        x.remove(1);
        due.is("add when one went", x.add(Octets.kind("EEEE")), 3);
        shows("behind again", x, "A123 C6 D89 E");
        due.is("no entry means it", x.chunk(3, 3), 0);
    }

    private static void addTakesTheTape() {
        due.promise(17, "with THE TAPE as its DATA (it is empty then)");
        BlorbRows x = new BlorbRows();
        x.feed(3, 0x0102FF);
        x.add(TEXT);
        due.is("told(3)", x.told(3), 0);
        due.is("its length", x.chunk(0, 1), 3);
        due.is("its last octet", x.octet(0, 2), 255);
        x.feed(1, 9);
        due.is("what is fed then is not its", x.octet(0, 0), 1);
    }

    private static void addOfAnEmptyTape() {
        due.promise(17, "with THE TAPE as its DATA");
        BlorbRows x = new BlorbRows();
        due.is("add", x.add(TEXT), 0);
        due.is("its length", x.chunk(0, 1), 0);
        due.is("told(2)", x.told(2), 0);
    }

    private static void addNoKind() {
        due.promise(17, "BAD: no KIND: four octets, each 32 .. 126");
        BlorbRows x = new BlorbRows();
        int[] octets = {0, 31, 32, 126, 127, 128, 255};
        int added = 0;
        for (int i = 0; i < 4; i++) {
            for (int octet : octets) {
                int kind = TEXT & ~(255 << 8 * i) | octet << 8 * i;
                boolean isKind = octet >= 32 && octet <= 126;
                due.is("add(" + Integer.toHexString(kind) + ")", x.add(kind), isKind ? added : BAD);
                added += isKind ? 1 : 0;
            }
        }
        int[] none = {0, -1, Integer.MIN_VALUE, Integer.MAX_VALUE};
        for (int kind : none) {
            due.is("add(" + kind + ")", x.add(kind), BAD);
        }
        due.is("the least", x.add(0x20202020), added);
        due.is("the greatest", x.add(0x7E7E7E7E), added + 1);
    }

    private static void addRidx() {
        due.promise(17, "BAD: or \"RIdx\"");
        BlorbRows x = new BlorbRows();
        x.feed(4, 0);
        due.is("RIdx", x.add(Octets.kind("RIdx")), BAD);
        due.is("the tape stays", x.told(3), 4);
        due.is("RIDX", x.add(Octets.kind("RIDX")), 0);
        due.is("FORM", x.add(Octets.kind("FORM")), 1);
        due.is("IFRS", x.add(Octets.kind("IFRS")), 2);
    }

    private static void addTheSixtyFirst() {
        due.promise(17, "FULL: CHUNKS (up to 60)");
        BlorbRows x = new BlorbRows();
        for (int k = 0; k < 60; k++) {
            x.feed(1, k);
            due.is("add " + k, x.add(TEXT), k);
        }
        x.feed(1, 77);
        due.is("the 61st", x.add(TEXT), FULL);
        due.is("the tape stays", x.told(3), 1);
        due.is("60 stay", x.told(0), 60);
        x.cut(0);
        due.is("the 61st, empty", x.add(TEXT), FULL);
        x.remove(30);
        x.feed(1, 77);
        due.is("one went, one comes", x.add(TEXT), 59);
        due.is("what was behind it", x.octet(30, 0), 31);
        due.is("what came", x.octet(59, 0), 77);
    }

    /** 5900 and 5932 octets of DATA: 168 go. */
    private static BlorbRows nearlyFull() {
        BlorbRows x = new BlorbRows();
        Calls.fillTape(x, 5900);
        x.add(TEXT);
        x.write();
        x.back();
        x.add(TEXT);
        return x;
    }

    private static void addTooManyOctets() {
        due.promise(17, "FULL: octets (12000 octets of DATA in all)");
        BlorbRows x = nearlyFull();
        due.is("octets", x.told(2), 11832);
        Calls.feed(x, new Octets().zeros(169));
        due.is("169 where 168 go", x.add(TEXT), FULL);
        due.is("the tape stays", x.told(3), 169);
        due.is("two stay", x.told(0), 2);
        x.cut(168);
        due.is("168 where 168 go", x.add(TEXT), 2);
        due.is("octets then", x.told(2), 12000);
        x.feed(1, 1);
        due.is("one where none goes", x.add(TEXT), FULL);
        x.cut(0);
        due.is("none where none goes", x.add(TEXT), 3);
        due.is("write()", x.write(), 24 + 4 * 8 + 12000);
    }

    private static void addIsBadAheadOfFull() {
        due.promise(17, "REFUSALS are answers, the first that fits");
        BlorbRows x = Calls.greatestHouse();
        x.feed(1, 1);
        due.is("no kind", x.add(0), BAD);
        due.is("RIdx", x.add(Octets.kind("RIdx")), BAD);
        due.is("TEXT", x.add(TEXT), FULL);
    }

    private static void meanComesBehind() {
        due.promise(18, "An ENTRY more, behind all others: its number");
        BlorbRows x = three();
        due.is("first", x.mean(PICT, 5, 2), 0);
        due.is("second", x.mean(PICT, 4, 0), 1);
        due.is("third", x.mean(DATA, 4, 0), 2);
        long[][] want = {{PICT, 5, 2}, {PICT, 4, 0}, {DATA, 4, 0}};
        for (int i = 0; i < 3; i++) {
            for (int what = 0; what < 3; what++) {
                due.is("entry(" + i + ", " + what + ")", x.entry(i, what), want[i][what]);
            }
        }
        x.drop(PICT, 4);
        due.is("when one went", x.mean(SND, 1, 1), 2);
        due.is("the tape does not count", x.told(3), 0);
    }

    private static void meanNumbers() {
        due.promise(18, "a NUMBER (a u4)");
        BlorbRows x = three();
        long[] numbers = {0, 1, 0x7FFFFFFFL, 0x80000000L, 4294967295L};
        for (int i = 0; i < numbers.length; i++) {
            due.is("mean(Pict, " + numbers[i] + ", 0)", x.mean(PICT, numbers[i], 0), i);
            due.is("entry(" + i + ", 1)", x.entry(i, 1), numbers[i]);
        }
    }

    private static void meanNoUse() {
        due.promise(18, "BAD: no USE");
        BlorbRows x = three();
        for (int use : NO_USES) {
            due.is("mean(" + use + ", 1, 0)", x.mean(use, 1, 0), BAD);
        }
        due.is("told(1)", x.told(1), 0);
        int[] uses = {PICT, SND, DATA, EXEC};
        for (int i = 0; i < 4; i++) {
            due.is("use " + i, x.mean(uses[i], 1, 0), i);
        }
    }

    private static void meanNoNumber() {
        due.promise(18, "BAD: no NUMBER");
        BlorbRows x = three();
        for (long number : NO_NUMBERS) {
            due.is("mean(Pict, " + number + ", 0)", x.mean(PICT, number, 0), BAD);
        }
        due.is("told(1)", x.told(1), 0);
    }

    private static void meanNoChunk() {
        due.promise(18, "BAD: no CHUNK");
        BlorbRows x = three();
        for (int k : NO_CHUNKS) {
            due.is("mean(Pict, 1, " + k + ")", x.mean(PICT, 1, k), BAD);
        }
        due.is("told(1)", x.told(1), 0);
        due.is("the last one", x.mean(PICT, 1, 2), 0);
        due.is("an empty house", new BlorbRows().mean(PICT, 1, 0), BAD);
    }

    private static void meanTaken() {
        due.promise(18, "TAKEN: there is one with these");
        BlorbRows x = three();
        x.mean(PICT, 5, 2);
        x.mean(DATA, 6, 2);
        due.is("the same", x.mean(PICT, 5, 2), TAKEN);
        due.is("another chunk", x.mean(PICT, 5, 1), TAKEN);
        due.is("the latest", x.mean(DATA, 6, 0), TAKEN);
        due.is("what it means stays", x.find(PICT, 5), 2);
        due.is("told(1)", x.told(1), 2);
        due.is("another use", x.mean(SND, 5, 2), 2);
        due.is("another number", x.mean(PICT, 6, 2), 3);
        x.drop(PICT, 5);
        due.is("when it went", x.mean(PICT, 5, 0), 3);
    }

    private static void meanTheFortyFirst() {
        due.promise(18, "FULL (up to 40 ENTRIES)");
        BlorbRows x = three();
        for (int i = 0; i < 40; i++) {
            due.is("mean " + i, x.mean(DATA, i, i % 3), i);
        }
        due.is("the 41st", x.mean(DATA, 40, 0), FULL);
        due.is("40 stay", x.told(1), 40);
        due.is("what it would mean", x.find(DATA, 40), NONE);
        due.is("one goes", x.drop(DATA, 0), 0);
        due.is("one comes", x.mean(DATA, 40, 0), 39);
        due.is("the last one's number", x.entry(39, 1), 40);
        due.is("the first one's number", x.entry(0, 1), 1);
    }

    private static void meanInOrder() {
        due.promise(18, "REFUSALS are answers, the first that fits: BAD, TAKEN, FULL");
        BlorbRows x = three();
        for (int i = 0; i < 40; i++) {
            x.mean(DATA, i, 0);
        }
        due.is("TAKEN ahead of FULL", x.mean(DATA, 39, 0), TAKEN);
        due.is("BAD (CHUNK) ahead of TAKEN", x.mean(DATA, 39, 3), BAD);
        due.is("BAD (CHUNK) ahead of FULL", x.mean(DATA, 99, 3), BAD);
        due.is("BAD (NUMBER) ahead of FULL", x.mean(DATA, -1, 0), BAD);
        due.is("BAD (USE) ahead of FULL", x.mean(0, 1, 0), BAD);
    }

    private static void changeTakesTheTape() {
        due.promise(19, "A CHUNK's DATA becomes THE TAPE (it is empty then)");
        BlorbRows x = three();
        x.feed(4, 0x01020304);
        x.change(1);
        due.is("told(3)", x.told(3), 0);
        shows("changed", x, "A123 B1234 C6");
        due.is("told(2)", x.told(2), 8);
    }

    private static void changeMovesWhatIsBehind() {
        due.promise(19, "A CHUNK's DATA becomes THE TAPE");
        BlorbRows x = three();
        Calls.change(x, 0, Octets.of(7, 7, 7, 7));
        shows("the first, longer", x, "A7777 B45 C6");
        Calls.change(x, 1, Octets.of(8));
        shows("one within, shorter", x, "A7777 B8 C6");
        Calls.change(x, 1, Octets.of(9));
        shows("the same length", x, "A7777 B9 C6");
        Calls.change(x, 2, Octets.of(1, 2));
        shows("the last, longer", x, "A7777 B9 C12");
        due.is("where the last stands", x.chunk(2, 2), 24 + 12 + 10);
    }

    private static void changeToAndFromNothing() {
        due.promise(19, "A CHUNK's DATA becomes THE TAPE");
        BlorbRows x = three();
        due.is("to none", x.change(1), 2);
        shows("to none", x, "A123 B C6");
        due.is("none to none", x.change(1), 0);
        due.is("from none", Calls.change(x, 1, Octets.of(1, 2)), 0);
        shows("from none", x, "A123 B12 C6");
        x.change(0);
        x.change(1);
        x.change(2);
        due.is("told(2)", x.told(2), 0);
        due.is("told(0)", x.told(0), 3);
    }

    private static void changeAnswersHowManyItHad() {
        due.promise(19, "how many octets it had");
        BlorbRows x = three();
        due.is("the first", Calls.change(x, 0, Octets.of(9)), 3);
        due.is("the second", Calls.change(x, 1, Octets.of(9, 9, 9)), 2);
        due.is("the first again", Calls.change(x, 0, Octets.of(9)), 1);
        BlorbRows y = nearlyFull();
        due.is("5932", y.change(1), 5932);
    }

    private static void changeKeepsKindAndEntries() {
        due.promise(19, "A CHUNK's DATA becomes THE TAPE");
        BlorbRows x = three();
        x.mean(DATA, 1, 2);
        x.mean(PICT, 1, 0);
        Calls.change(x, 0, Octets.of(9));
        due.is("its kind", x.chunk(0, 0), Octets.kind("AAAA"));
        due.is("its entry", x.find(PICT, 1), 0);
        due.is("another's entry", x.find(DATA, 1), 2);
        due.is("told(1)", x.told(1), 2);
    }

    private static void changeNoChunk() {
        due.promise(19, "BAD");
        BlorbRows x = three();
        x.feed(1, 1);
        for (int k : NO_CHUNKS) {
            due.is("change(" + k + ")", x.change(k), BAD);
        }
        due.is("the tape stays", x.told(3), 1);
        shows("all stay", x, "A123 B45 C6");
    }

    private static void changeTooManyOctets() {
        due.promise(19, "FULL: octets (12000 octets of DATA in all)");
        BlorbRows x = nearlyFull();
        x.feed(8, 1);
        x.add(TEXT);
        due.is("octets", x.told(2), 11840);
        Calls.feed(x, new Octets().zeros(169));
        due.is("169 for 8", x.change(2), FULL);
        due.is("the tape stays", x.told(3), 169);
        due.is("the chunk stays", x.chunk(2, 1), 8);
        due.is("its octet stays", x.octet(2, 7), 1);
        x.cut(168);
        due.is("168 for 8", x.change(2), 8);
        due.is("octets then", x.told(2), 12000);
    }

    private static void changeInAFullHouse() {
        due.promise(19, "FULL: octets (12000 octets of DATA in all)");
        BlorbRows x = Calls.greatestHouse();
        x.feed(6, 1);
        due.is("6 for 5", x.change(2), FULL);
        x.cut(5);
        due.is("5 for 5", x.change(2), 5);
        due.is("told(2)", x.told(2), 12000);
        x.feed(4, 1);
        due.is("4 for 5", x.change(2), 5);
        x.feed(6, 1);
        due.is("6 for 5 then", x.change(3), 5);
        due.is("the last octet of all", x.octet(59, 20), 255);
        due.is("none for 5831", x.change(0), 5831);
    }

    private static void changeIsBadAheadOfFull() {
        due.promise(19, "REFUSALS are answers, the first that fits");
        BlorbRows x = Calls.greatestHouse();
        x.feed(6, 1);
        due.is("change(60)", x.change(60), BAD);
        due.is("change(-1)", x.change(-1), BAD);
        due.is("change(2)", x.change(2), FULL);
    }

    /** Pict 1 and Snd 1 mean B, Data 1 means C, Data 2 means A. */
    private static BlorbRows named() {
        BlorbRows x = three();
        x.mean(PICT, 1, 1);
        x.mean(SND, 1, 1);
        x.mean(DATA, 1, 2);
        x.mean(DATA, 2, 0);
        return x;
    }

    private static void dropTheEntryAlone() {
        due.promise(20, "The ENTRY of a USE and a NUMBER goes: 1 if its CHUNK went, too, else 0");
        BlorbRows x = named();
        x.feed(1, 1);
        due.is("drop", x.drop(PICT, 1), 0);
        shows("the chunks stay", x, "A123 B45 C6");
        due.is("told(1)", x.told(1), 3);
        due.is("it went", x.find(PICT, 1), NONE);
        due.is("the other stays", x.find(SND, 1), 1);
        due.is("the tape stays", x.told(3), 1);
    }

    private static void dropTheChunkToo() {
        due.promise(20, "and its CHUNK, if no other ENTRY means it: 1");
        BlorbRows x = named();
        due.is("another means it", x.drop(SND, 1), 0);
        due.is("no other means it", x.drop(PICT, 1), 1);
        shows("it went", x, "A123 C6");
        due.is("told(2)", x.told(2), 4);
        due.is("told(1)", x.told(1), 2);
    }

    private static void dropMovesWhatIsBehind() {
        due.promise(20, "CHUNKS (numbered 0, 1, .. in order), ENTRIES (numbered likewise)");
        BlorbRows x = named();
        x.drop(PICT, 1);
        x.drop(SND, 1);
        due.is("the chunk behind", x.find(DATA, 1), 1);
        due.is("the chunk ahead", x.find(DATA, 2), 0);
        due.is("entry 0", x.entry(0, 1), 1);
        due.is("entry 1", x.entry(1, 1), 2);
        due.is("no entry 2", x.entry(2, 1), BAD);
        due.is("no chunk 2", x.chunk(2, 0), BAD);
        due.is("drop of the first chunk", x.drop(DATA, 2), 1);
        due.is("the chunk behind again", x.find(DATA, 1), 0);
        shows("one is left", x, "C6");
    }

    private static void dropTheLast() {
        due.promise(20, "The ENTRY goes (and its CHUNK)");
        BlorbRows x = new BlorbRows();
        Calls.add(x, "TEXT", Octets.of(1, 2, 3));
        x.mean(DATA, 4294967295L, 0);
        due.is("drop", x.drop(DATA, 4294967295L), 1);
        for (int what = 0; what < 3; what++) {
            due.is("told(" + what + ")", x.told(what), 0);
        }
        due.is("write()", x.write(), 24);
        BlorbRows y = Calls.greatestHouse();
        due.is("of 40 the last", y.drop(DATA, 39), 1);
        due.is("told(1)", y.told(1), 39);
        due.is("of 60 the last", y.drop(DATA, 0), 1);
        due.is("told(0)", y.told(0), 58);
    }

    private static void dropNoUseOrNumber() {
        due.promise(20, "BAD: no USE, NUMBER");
        BlorbRows x = named();
        for (int use : NO_USES) {
            due.is("drop(" + use + ", 1)", x.drop(use, 1), BAD);
        }
        for (long number : NO_NUMBERS) {
            due.is("drop(Pict, " + number + ")", x.drop(PICT, number), BAD);
        }
        due.is("told(1)", x.told(1), 4);
    }

    private static void dropNone() {
        due.promise(20, "NONE");
        BlorbRows x = named();
        due.is("another number", x.drop(PICT, 2), NONE);
        due.is("another use", x.drop(EXEC, 1), NONE);
        due.is("told(1)", x.told(1), 4);
        due.is("it goes", x.drop(DATA, 1), 1);
        due.is("it went", x.drop(DATA, 1), NONE);
        due.is("an empty house", new BlorbRows().drop(PICT, 0), NONE);
    }

    private static void dropAmongForty() {
        due.promise(20, "up to 60 CHUNKS, up to 40 ENTRIES");
        BlorbRows x = Calls.greatestHouse();
        due.is("no such one of 40", x.drop(DATA, 40), NONE);
        due.is("the one that means the first", x.drop(DATA, 39), 1);
        due.is("told(0)", x.told(0), 59);
        due.is("told(1)", x.told(1), 39);
        due.is("what the first means", x.entry(0, 2), 58);
        due.is("what the last means", x.entry(38, 2), 20);
    }

    private static void removeWhatNoneMeans() {
        due.promise(21, "A CHUNK that no ENTRY means goes");
        BlorbRows x = three();
        x.feed(1, 1);
        x.remove(1);
        shows("one within", x, "A123 C6");
        x.remove(0);
        shows("the first", x, "C6");
        x.remove(0);
        shows("the last", x, "");
        due.is("told(2)", x.told(2), 0);
        due.is("the tape stays", x.told(3), 1);
    }

    private static void removeMovesWhatIsBehind() {
        due.promise(21, "CHUNKS (numbered 0, 1, .. in order)");
        BlorbRows x = three();
        x.mean(DATA, 3, 2);
        x.mean(DATA, 1, 0);
        x.remove(1);
        due.is("behind", x.entry(0, 2), 1);
        due.is("ahead", x.entry(1, 2), 0);
        due.is("entries stay", x.told(1), 2);
        Calls.add(x, "DDDD", Octets.of(7, 8));
        shows("put in behind", x, "A123 C6 D78");
        Calls.change(x, 1, Octets.of(9, 9, 9));
        shows("changed within", x, "A123 C999 D78");
        due.is("where the last stands", x.chunk(2, 2), 24 + 24 + 12 + 12);
    }

    private static void removeAnswersHowManyItHad() {
        due.promise(21, "how many octets its DATA had");
        BlorbRows x = three();
        Calls.add(x, "DDDD", Octets.of());
        due.is("none", x.remove(3), 0);
        due.is("two", x.remove(1), 2);
        due.is("three", x.remove(0), 3);
        BlorbRows y = new BlorbRows();
        Calls.fillTape(y, 6000);
        y.add(TEXT);
        due.is("6000", y.remove(0), 6000);
    }

    private static void removeTaken() {
        due.promise(21, "TAKEN: an ENTRY means it");
        BlorbRows x = named();
        for (int k = 0; k < 3; k++) {
            due.is("remove(" + k + ")", x.remove(k), TAKEN);
        }
        shows("all stay", x, "A123 B45 C6");
        x.drop(PICT, 1);
        due.is("another still means it", x.remove(1), TAKEN);
    }

    private static void removeNoChunk() {
        due.promise(21, "BAD");
        BlorbRows x = named();
        for (int k : NO_CHUNKS) {
            due.is("remove(" + k + ")", x.remove(k), BAD);
        }
        due.is("an empty house", new BlorbRows().remove(0), BAD);
        BlorbRows y = three();
        y.remove(2);
        due.is("the number of one that went", y.remove(2), BAD);
    }

    private static void removeAmongForty() {
        due.promise(21, "up to 60 CHUNKS, up to 40 ENTRIES");
        BlorbRows x = Calls.greatestHouse();
        due.is("the last", x.remove(59), TAKEN);
        due.is("the first that an ENTRY means", x.remove(20), TAKEN);
        due.is("the last that none means", x.remove(19), 5);
        due.is("the first", x.remove(0), 5831);
        due.is("told(0)", x.told(0), 58);
        due.is("told(1)", x.told(1), 40);
        due.is("what the first means", x.entry(0, 2), 57);
        due.is("what the last means", x.entry(39, 2), 18);
        due.is("the last octet of all", x.octet(57, 20), 255);
    }
}
