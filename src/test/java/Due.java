/** Counts and prints the answers that are not the ones that are due. */
final class Due {
    private int asked = 0;
    private int wrong = 0;

    void due(String what, int got, int want) {
        asked++;
        if (got != want) {
            wrong++;
            System.out.println(what + " answered " + got + ", due is " + want);
        }
    }

    /** Ends the program with 1 if an answer was wrong, or if nothing was asked at all. */
    void end() {
        System.out.println(asked + " answers, " + wrong + " not as due");
        if (wrong != 0 || asked == 0) {
            System.exit(1);
        }
    }
}
