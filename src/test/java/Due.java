/** Compares answers with those that are due, and ends the program with 1 if one was not. */
final class Due {
    private final String test;
    private String sentence = "";
    private int sentences;
    private int callsBefore;
    private int calls;
    private int wrong;

    Due(String test) {
        this.test = test;
    }

    /** What is compared from here on tests these words of the document. */
    void sentence(String words) {
        endSentence();
        sentences++;
        sentence = " (" + words + ")";
        callsBefore = calls;
    }

    void is(String call, long got, long want) {
        calls++;
        if (got != want) {
            tell(call + " answered " + got + ", due is " + want);
        }
    }

    void isDouble(String call, double got, double want) {
        calls++;
        if (Double.compare(got, want) != 0) {
            tell(call + " answered " + got + ", due is " + want);
        }
    }

    void holds(String claim, boolean held) {
        calls++;
        if (!held) {
            tell("it does not hold that " + claim);
        }
    }

    void end() {
        endSentence();
        String told = sentences == 0 ? "" : sentences + " sentences, ";
        System.out.println(test + ": " + told + calls + " answers, " + wrong + " not as due");
        if (wrong != 0 || calls == 0) {
            System.exit(1);
        }
    }

    private void endSentence() {
        if (sentences > 0 && calls == callsBefore) {
            tell("nothing was compared");
        }
    }

    private void tell(String fault) {
        wrong++;
        System.out.println(test + sentence + ": " + fault);
    }
}
