/** Counts answers that are not the ones that are due, and prints them. */
final class Checks {
    private final String test;
    private String place = "";
    private int asked;
    private int wrong;

    Checks(String test) {
        this.test = test;
    }

    /** What the next answers are about, for the reader of a wrong one. */
    void at(String newPlace) {
        place = newPlace + ": ";
    }

    void due(String what, long got, long want) {
        count(got == want, what, String.valueOf(got), String.valueOf(want));
    }

    void due(String what, String got, String want) {
        count(got.equals(want), what, got, want);
    }

    void holds(String what, boolean holds) {
        due(what, holds ? 1 : 0, 1);
    }

    private void count(boolean isDue, String what, String got, String want) {
        asked++;
        if (!isDue) {
            wrong++;
            System.out.println(test + ": " + place + what + " answered " + got + ", due is " + want);
        }
    }

    int asked() {
        return asked;
    }

    boolean isWrong() {
        return wrong != 0;
    }

    /** Ends the test: exit code 1 if an answer was not as due. */
    void end() {
        System.out.println(test + ": " + (asked - wrong) + " of " + asked + " as due");
        if (wrong != 0) {
            System.exit(1);
        }
    }
}
