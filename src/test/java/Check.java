/** Compares answers with those that are due, and tells how many were not. */
final class Check {
    private int right;
    private int wrong;
    private String about = "";

    /** What the next comparisons are about. */
    void about(String what) {
        about = what;
    }

    void due(String call, long got, long want) {
        if (got == want) {
            right++;
            return;
        }
        wrong++;
        if (wrong <= 50) {
            System.out.println(about + ": " + call + " answered " + got + ", due is " + want);
        }
    }

    void that(String what, boolean isSo) {
        due(what, isSo ? 1 : 0, 1);
    }

    /** Prints the sum and ends the program, with code 1 if something was wrong. */
    void close() {
        System.out.println(right + " answers as due, " + wrong + " not");
        System.exit(wrong == 0 && right > 0 ? 0 : 1);
    }
}
