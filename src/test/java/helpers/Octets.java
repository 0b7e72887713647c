import java.io.ByteArrayOutputStream;

/** Builds rows of octets for the tests. */
final class Octets {
    private final ByteArrayOutputStream row = new ByteArrayOutputStream();

    static Octets of(int... octets) {
        return new Octets().u1(octets);
    }

    static Octets text(String text) {
        return new Octets().put(text);
    }

    static int kind(String four) {
        return four.charAt(0) << 24 | four.charAt(1) << 16 | four.charAt(2) << 8 | four.charAt(3);
    }

    Octets put(String text) {
        for (char c : text.toCharArray()) {
            row.write(c);
        }
        return this;
    }

    Octets u1(int... octets) {
        for (int octet : octets) {
            row.write(octet);
        }
        return this;
    }

    Octets u2(int... numbers) {
        for (int number : numbers) {
            u1(number >>> 8, number);
        }
        return this;
    }

    Octets u4(long... numbers) {
        for (long number : numbers) {
            u2((int) (number >>> 16) & 65535, (int) number & 65535);
        }
        return this;
    }

    Octets zeros(int n) {
        for (int i = 0; i < n; i++) {
            row.write(0);
        }
        return this;
    }

    Octets put(Octets other) {
        row.writeBytes(other.bytes());
        return this;
    }

    /** A PIECE with its odd octet. */
    Octets piece(String kind, Octets data) {
        int length = data.length();
        return put(kind).u4(length).put(data).zeros(length & 1);
    }

    /** FORM, the right u4, IFRS, and these. */
    static Octets form(Octets pieces) {
        return text("FORM").u4(4 + pieces.length()).put("IFRS").put(pieces);
    }

    int length() {
        return row.size();
    }

    byte[] bytes() {
        return row.toByteArray();
    }
}
