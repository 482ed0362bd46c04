/** Compares answers with those that are due, prints each that differs, and ends the test. */
final class Due {
    private int wrong;
    private int asked;
    private String part = "";

    void part(String name) {
        part = name;
    }

    void eq(String call, long got, long want) {
        asked++;
        if (got != want) {
            wrong++;
            System.out.println(part + ": " + call + " answered " + got + ", due is " + want);
        }
    }

    void yes(String what, boolean holds) {
        eq(what, holds ? 1 : 0, 1);
    }

    void end() {
        System.out.println(asked + " answers, " + wrong + " not as due");
        if (wrong != 0) {
            System.exit(1);
        }
    }
}
