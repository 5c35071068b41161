/** Counts answers that are not as due, and prints them. */
final class Check {
    private final String of;
    private int asked;
    private int wrong;

    Check(String of) {
        this.of = of;
    }

    void same(String what, Object got, Object due) {
        asked++;
        if (!got.equals(due)) {
            wrong++;
            if (wrong <= 50) {
                System.out.println(of + ": " + what + " answered " + got + ", due is " + due);
            }
        }
    }

    int wrong() {
        return wrong;
    }

    void end() {
        System.out.println(of + ": " + asked + " answers, " + wrong + " not as due");
        if (wrong != 0) {
            System.exit(1);
        }
    }
}
