/** Counts and prints the answers that are not as due, each with the promise and the sentence that it is about. */
final class Due {
    /** More would hide the first ones, which tell most. */
    private static final int MOST_SHOWN = 40;

    private int sentences;
    private int asked;
    private int wrong;
    private String about = "";

    /** What is asked from here on is a test of its own: of this sentence of the document, which this promise uses. */
    void promise(int number, String sentence) {
        sentences++;
        about = "promise " + number + " '" + sentence + "': ";
    }

    void is(String call, long got, long want) {
        asked++;
        if (got != want) {
            wrong++;
        }
        if (got != want && wrong <= MOST_SHOWN) {
            System.out.println(about + call + " answered " + got + ", due is " + want);
        }
    }

    void isTrue(String what, boolean so) {
        is(what, so ? 1 : 0, 1);
    }

    void end(String name) {
        System.out.println(name + ": " + sentences + " sentences, " + asked + " answers, " + wrong + " not as due");
        if (wrong != 0) {
            System.exit(1);
        }
    }
}
