/** Counts the answers that are not as due, prints each of them, and ends the program by their number. */
final class Due {
    private int asked = 0;
    private int wrong = 0;
    private String about = "";

    /** What the answers that follow are due by; printed with those that are wrong. */
    void about(String sentence) {
        about = sentence + ": ";
    }

    void is(String call, long got, long want) {
        asked++;
        if (got != want) {
            wrong++;
            System.out.println(about + call + " answered " + got + ", due is " + want);
        }
    }

    void holds(String claim, boolean holds) {
        is(claim, holds ? 1 : 0, 1);
    }

    int asked() {
        return asked;
    }

    int wrong() {
        return wrong;
    }

    void end() {
        System.out.println(wrong == 0 ? asked + " answers as due" : wrong + " of " + asked + " answers not as due");
        if (wrong != 0) {
            System.exit(1);
        }
    }
}
