/** Counts answers that are not as due and tells them. */
final class Check {
    private int asked = 0;
    private int wrong = 0;
    private String about = "";

    /** What is told ahead of each answer that is wrong, from now on. */
    void about(String what) {
        about = what + ": ";
    }

    void due(String call, long got, long want) {
        asked++;
        if (got == want) return;
        wrong++;
        System.out.println(about + call + " answered " + got + ", due is " + want);
    }

    void holds(String what, boolean truth) {
        due(what, truth ? 1 : 0, 1);
    }

    int asked() {
        return asked;
    }

    boolean failed() {
        return wrong > 0;
    }

    void end() {
        System.out.println(asked + " answers asked, " + wrong + " not as due");
        if (wrong > 0) System.exit(1);
    }
}
