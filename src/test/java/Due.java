/** Counts and prints the answers that are not the ones that are due. */
final class Due {
    private int asked;
    private int wrong;

    void is(String call, long want, long got) {
        asked++;
        if (got != want) {
            wrong++;
            if (wrong <= 40) {
                System.out.println(call + " answered " + got + ", due is " + want);
            }
        }
    }

    /** A call that is refused: it answers -1, and this is its status. */
    void refused(String call, int status, FamineCode x, int got) {
        is(call, -1, got);
        is("status() after " + call, status, x.status());
    }

    boolean isWrong() {
        return wrong > 0;
    }

    void end() {
        System.out.println(asked + " answers, " + wrong + " not as due");
        if (wrong > 0) {
            System.exit(1);
        }
    }
}
