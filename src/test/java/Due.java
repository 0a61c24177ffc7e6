/** Compares answers with the ones that are due, and ends a test with exit code 1 if one was wrong. */
final class Due {
    static final long BAD = Long.MIN_VALUE + 2;
    static final long NOT = Long.MIN_VALUE + 3;

    private final String test;
    private String promise = "";
    private int asked;
    private int wrong;

    Due(String test) {
        this.test = test;
    }

    void promise(int number, String name) {
        promise = "promise " + number + " (" + name + "): ";
    }

    /** What follows is asked of one sentence; section 0 are the terms. */
    void sentence(int section, String words) {
        promise = (section == 0 ? "terms" : "promise " + section) + ", '" + words + "': ";
    }

    void is(String call, long got, long want) {
        asked++;
        if (got != want) {
            wrong++;
            System.out.println(test + ": " + promise + call + " answered " + got + ", due is " + want);
        }
    }

    void isTrue(String what, boolean holds) {
        is(what + " (1: it holds)", holds ? 1 : 0, 1);
    }

    int asked() {
        return asked;
    }

    boolean isRight() {
        return wrong == 0;
    }

    void end() {
        System.out.println(test + ": " + asked + " answers, " + wrong + " not as due");
        if (wrong != 0 || asked == 0) {
            System.exit(1);
        }
    }
}
