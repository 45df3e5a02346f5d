/** Counts and prints the answers that are not the due ones. */
final class Due {
    private final String suite;
    private String part = "";
    private int asked;
    private int wrong;

    Due(String suite) {
        this.suite = suite;
    }

    void part(String name) {
        part = name;
    }

    void same(String call, long got, long want) {
        asked++;
        if (got != want) {
            wrong++;
            System.out.println(part + ": " + call + " answered " + got + ", due is " + want);
        }
    }

    void holds(String what, boolean is) {
        same(what, is ? 1 : 0, 1);
    }

    void end() {
        System.out.println(suite + ": " + asked + " answers, " + wrong + " not as due");
        if (wrong != 0) {
            System.exit(1);
        }
    }
}
