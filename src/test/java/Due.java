/** Counts and prints the answers that are not as due. */
final class Due {
    private final String name;
    private String sentence = "";
    private int wrong = 0;
    private int asked = 0;

    Due(String name) {
        this.name = name;
    }

    /** The document's sentence that the answers from here on belong to. */
    void about(String said) {
        sentence = " [" + said + "]";
    }

    void is(String call, long got, long want) {
        asked++;
        if (got != want) {
            wrong++;
            System.out.println(name + sentence + ": " + call + " answered " + got + ", due is " + want);
        }
    }

    void yes(String call, boolean got) {
        is(call, got ? 1 : 0, 1);
    }

    void no(String call, boolean got) {
        is(call, got ? 1 : 0, 0);
    }

    void close() {
        System.out.println(name + ": " + asked + " answers, " + wrong + " wrong");
        if (wrong != 0) {
            System.exit(1);
        }
    }
}
