/** Counts and prints the answers that are not the ones that are due. */
final class Due {
    private int checked = 0;
    private int wrong = 0;

    void is(String what, long got, long want) {
        checked++;
        if (got != want) {
            wrong++;
            System.out.println(what + ": answered " + got + ", due is " + want);
        }
    }

    int wrong() {
        return wrong;
    }

    /** Ends the machine with exit code 1 if an answer was wrong, or if none was looked at. */
    void end() {
        System.out.println(checked + " answers looked at, " + wrong + " wrong");
        if (wrong != 0 || checked == 0) {
            System.exit(1);
        }
    }
}
