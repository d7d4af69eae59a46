/** Compares answers with those that are due, and ends the program with 1 if one was not. */
final class Due {
    private final String test;
    private int calls;
    private int wrong;

    Due(String test) {
        this.test = test;
    }

    void is(String call, long got, long want) {
        calls++;
        if (got != want) {
            wrong++;
            System.out.println(test + ": " + call + " answered " + got + ", due is " + want);
        }
    }

    void isDouble(String call, double got, double want) {
        calls++;
        if (Double.compare(got, want) != 0) {
            wrong++;
            System.out.println(test + ": " + call + " answered " + got + ", due is " + want);
        }
    }

    void holds(String claim, boolean held) {
        calls++;
        if (!held) {
            wrong++;
            System.out.println(test + ": it does not hold that " + claim);
        }
    }

    void end() {
        System.out.println(test + ": " + calls + " answers, " + wrong + " not as due");
        if (wrong != 0 || calls == 0) {
            System.exit(1);
        }
    }
}
