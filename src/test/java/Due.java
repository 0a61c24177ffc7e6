/** Compares answers with the ones that are due, and ends a test with exit code 1 if one was wrong. */
final class Due {
    static final long BAD = Long.MIN_VALUE + 2;
    static final long NOT = Long.MIN_VALUE + 3;

    private final String test;
    private String promise = "";
    private int asked;
    private int wrong;

    Due(String test) {
        this.test = test;
    }

    void promise(int number, String name) {
        promise = "promise " + number + " (" + name + "): ";
    }

    void is(String call, long got, long want) {
        asked++;
        if (got != want) {
            wrong++;
            System.out.println(test + ": " + promise + call + " answered " + got + ", due is " + want);
        }
    }

    boolean isRight() {
        return wrong == 0;
    }

    void end() {
        System.out.println(test + ": " + asked + " answers, " + wrong + " not as due");
        if (wrong != 0 || asked == 0) {
            System.exit(1);
        }
    }
}
