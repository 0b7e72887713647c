/** Promises 13 front, 14 release, 15 colour: a method for each sentence that names an edge. */
public final class FrontTest {
    private static final Due due = new Due();
    private static final int NONE = BlorbRows.NONE;
    private static final int BAD = BlorbRows.BAD;

    public static void main(String[] args) {
        frontOfFour();
        frontIsAU4();
        frontOfTheFirst();
        frontOfAnotherKind();
        noFront();
        frontAmongSixty();
        releaseOfTwo();
        releaseIsAU2();
        releaseOfTheFirst();
        releaseOfAnotherKind();
        noRelease();
        releaseAmongSixty();
        colourOfThree();
        colourBelowZero();
        colourWithoutPlte();
        colourBeyond();
        colourThatWraps();
        colourOfTheFirst();
        colourNotOfTheNextChunk();
        colourAmongSixty();
        due.end("FrontTest");
    }

    private static BlorbRows with(String kind, Octets data) {
        BlorbRows x = new BlorbRows();
        Calls.add(x, kind, data);
        return x;
    }

    private static void frontOfFour() {
        due.promise(13, "\"Fspc\" with a DATA of 4 octets");
        for (int n = 0; n < 10; n++) {
            due.is("of " + n, with("Fspc", new Octets().zeros(n)).front(), n == 4 ? 0 : NONE);
        }
    }

    private static void frontIsAU4() {
        due.promise(13, "its u4");
        long[] numbers = {0, 1, 0x01020304L, 0x7FFFFFFFL, 0x80000000L, 4294967295L};
        for (long number : numbers) {
            due.is("of " + number, with("Fspc", new Octets().u4(number)).front(), number);
        }
    }

    private static void frontOfTheFirst() {
        due.promise(13, "of the first \"Fspc\" with a DATA of 4 octets");
        BlorbRows x = with("TEXT", new Octets().u4(9));
        Calls.add(x, "Fspc", new Octets().u4(5));
        Calls.add(x, "Fspc", new Octets().u4(7));
        due.is("two", x.front(), 5);
        Calls.change(x, 1, Octets.of(1, 2, 3));
        due.is("the first has three octets", x.front(), 7);
        Calls.change(x, 1, Octets.of(1, 2, 3, 4, 5));
        due.is("the first has five octets", x.front(), 7);
        x.remove(1);
        due.is("the first went", x.front(), 7);
    }

    private static void frontOfAnotherKind() {
        due.promise(13, "\"Fspc\"");
        String[] kinds = {"fspc", "FSPC", "Fsp ", "RelN", "TEXT"};
        for (String kind : kinds) {
            due.is(kind, with(kind, new Octets().u4(1)).front(), NONE);
        }
    }

    private static void noFront() {
        due.promise(13, "NONE");
        due.is("an empty house", new BlorbRows().front(), NONE);
        BlorbRows x = with("Fspc", new Octets().u4(1));
        x.remove(0);
        due.is("it went", x.front(), NONE);
    }

    /** 59 CHUNKS of others, and this as the 60th. */
    private static BlorbRows sixtieth(String kind, Octets data) {
        BlorbRows x = Calls.manyChunks(59);
        Calls.add(x, kind, data);
        return x;
    }

    private static void frontAmongSixty() {
        due.promise(13, "up to 60 CHUNKS");
        due.is("none of 60", Calls.manyChunks(60).front(), NONE);
        due.is("the 60th", sixtieth("Fspc", new Octets().u4(5)).front(), 5);
    }

    private static void releaseOfTwo() {
        due.promise(14, "\"RelN\" of 2 octets");
        for (int n = 0; n < 6; n++) {
            due.is("of " + n, with("RelN", new Octets().zeros(n)).release(), n == 2 ? 0 : NONE);
        }
    }

    private static void releaseIsAU2() {
        due.promise(14, "its u2");
        int[] numbers = {0, 1, 0x0102, 32767, 32768, 65535};
        for (int number : numbers) {
            due.is("of " + number, with("RelN", new Octets().u2(number)).release(), number);
        }
    }

    private static void releaseOfTheFirst() {
        due.promise(14, "of the first \"RelN\" of 2 octets");
        BlorbRows x = with("TEXT", new Octets().u2(9));
        Calls.add(x, "RelN", new Octets().u2(5));
        Calls.add(x, "RelN", new Octets().u2(7));
        due.is("two", x.release(), 5);
        Calls.change(x, 1, Octets.of(1));
        due.is("the first has one octet", x.release(), 7);
        Calls.change(x, 1, Octets.of(1, 2, 3));
        due.is("the first has three octets", x.release(), 7);
        x.remove(1);
        due.is("the first went", x.release(), 7);
    }

    private static void releaseOfAnotherKind() {
        due.promise(14, "\"RelN\"");
        String[] kinds = {"reln", "RelM", "Rel ", "Fspc", "TEXT"};
        for (String kind : kinds) {
            due.is(kind, with(kind, new Octets().u2(1)).release(), NONE);
        }
    }

    private static void noRelease() {
        due.promise(14, "NONE");
        due.is("an empty house", new BlorbRows().release(), NONE);
        BlorbRows x = with("RelN", new Octets().u2(1));
        x.remove(0);
        due.is("it went", x.release(), NONE);
    }

    private static void releaseAmongSixty() {
        due.promise(14, "up to 60 CHUNKS");
        due.is("none of 60", Calls.manyChunks(60).release(), NONE);
        due.is("the 60th", sixtieth("RelN", new Octets().u2(5)).release(), 5);
    }

    private static void colourOfThree() {
        due.promise(15, "65536 times its first octet, 256 times its second one and its third");
        BlorbRows x = with("Plte", Octets.of(255, 254, 253, 0, 1, 2, 255, 255, 255, 0, 0, 0));
        due.is("colour(0)", x.colour(0), 0xFFFEFD);
        due.is("colour(1)", x.colour(1), 0x000102);
        due.is("colour(2)", x.colour(2), 16777215);
        due.is("colour(3)", x.colour(3), 0);
    }

    private static void colourBelowZero() {
        due.promise(15, "BAD: i is below 0");
        BlorbRows x = with("Plte", Octets.of(1, 2, 3));
        due.is("colour(-1)", x.colour(-1), BAD);
        due.is("colour(least)", x.colour(Integer.MIN_VALUE), BAD);
        due.is("colour(0)", x.colour(0), 0x010203);
        due.is("colour(-1) without Plte, ahead of NONE", new BlorbRows().colour(-1), BAD);
    }

    private static void colourWithoutPlte() {
        due.promise(15, "NONE: there is no \"Plte\"");
        due.is("an empty house", new BlorbRows().colour(0), NONE);
        due.is("another kind", with("plte", Octets.of(1, 2, 3)).colour(0), NONE);
        due.is("TEXT", with("TEXT", Octets.of(1, 2, 3)).colour(0), NONE);
    }

    private static void colourBeyond() {
        due.promise(15, "NONE: not so many octets");
        for (int n = 0; n <= 9; n++) {
            BlorbRows x = with("Plte", new Octets().zeros(n));
            for (int i = 0; i < 4; i++) {
                due.is("colour(" + i + ") of " + n, x.colour(i), 3 * i + 3 <= n ? 0 : NONE);
            }
        }
    }

    private static void colourThatWraps() {
        due.promise(15, "NONE: not so many octets");
        BlorbRows x = with("Plte", Octets.of(1, 2, 3, 4, 5, 6, 7, 8));
        // 3 i as an int is 2, 5, below 0, the greatest but one, below 0.
        int[] numbers = {1431655766, 1431655767, 715827883, 715827882, Integer.MAX_VALUE};
        for (int i : numbers) {
            due.is("colour(" + i + ")", x.colour(i), NONE);
        }
    }

    private static void colourOfTheFirst() {
        due.promise(15, "of the first \"Plte\"");
        BlorbRows x = with("TEXT", Octets.of(7, 7, 7));
        Calls.add(x, "Plte", Octets.of(1, 2, 3));
        Calls.add(x, "Plte", Octets.of(9, 9, 9, 8, 8, 8));
        due.is("colour(0)", x.colour(0), 0x010203);
        due.is("colour(1), which the second alone has", x.colour(1), NONE);
        x.change(1);
        due.is("colour(0) of an empty first one", x.colour(0), NONE);
        x.remove(1);
        due.is("colour(1), the first went", x.colour(1), 0x080808);
    }

    private static void colourNotOfTheNextChunk() {
        due.promise(15, "NONE: not so many octets");
        BlorbRows x = with("Plte", Octets.of(1, 2, 3, 4, 5));
        Calls.add(x, "TEXT", Octets.of(6, 7));
        due.is("colour(1)", x.colour(1), NONE);
    }

    private static void colourAmongSixty() {
        due.promise(15, "up to 60 CHUNKS");
        due.is("none of 60", Calls.manyChunks(60).colour(0), NONE);
        due.is("the 60th", sixtieth("Plte", Octets.of(1, 2, 3)).colour(0), 0x010203);
    }
}
