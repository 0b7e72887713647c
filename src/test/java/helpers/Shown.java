/** All that can be seen of an object, as a text; the object is used up by that. */
final class Shown {
    /** Octets are looked at here and there in long rows, so that an object stays below 512 calls. */
    private static final int MOST_LOOKS = 60;

    private final BlorbRows x;
    private final StringBuilder text = new StringBuilder();

    private Shown(BlorbRows x) {
        this.x = x;
    }

    static String of(BlorbRows x) {
        Shown shown = new Shown(x);
        shown.numbers();
        shown.out("OUT");
        shown.house();
        shown.tape();
        return shown.text.toString();
    }

    private void numbers() {
        text.append("place ").append(x.place());
        for (int what = 0; what < 5; what++) {
            text.append(" told ").append(x.told(what));
        }
    }

    private static int step(int length) {
        return Math.max(1, (length + MOST_LOOKS - 1) / MOST_LOOKS);
    }

    private void out(String name) {
        text.append(' ').append(name);
        int length = x.told(4);
        for (int i = 0; i < length; i += step(length)) {
            text.append(' ').append(x.out(i));
        }
    }

    /** What is WRITTEN has all that THE HOUSE has. */
    private void house() {
        x.write();
        out("HOUSE");
    }

    private void tape() {
        text.append(" TAPE");
        int k = x.change(0) >= 0 ? 0 : x.add(Octets.kind("TEXT"));
        int length = x.chunk(k, 1);
        for (int i = 0; i < length; i += step(length)) {
            text.append(' ').append(x.octet(k, i));
        }
    }
}
