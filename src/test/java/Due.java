/** Counts answers that are not the ones due, for the tests of the project. */
final class Due {
    private int asked = 0;
    private int wrong = 0;
    private String sentence = "";
    private int askedOfSentence = 1;

    /** The sentence of the document that the answers behind it belong to. */
    void sentence(String words) {
        mustBeAsked();
        sentence = words;
        askedOfSentence = 0;
    }

    void is(String call, long got, long want) {
        asked++;
        askedOfSentence++;
        if (got != want) {
            wrong++;
            if (wrong <= 50) {
                String head = sentence.isEmpty() ? "" : "[" + sentence + "] ";
                System.out.println(head + call + " answered " + got + ", due is " + want);
            }
        }
    }

    void same(String call, String got, String want) {
        is(call + (got.equals(want) ? "" : ": " + got + " is not " + want), got.equals(want) ? 1 : 0, 1);
    }

    private void mustBeAsked() {
        if (askedOfSentence == 0) {
            wrong++;
            System.out.println("[" + sentence + "] has no test");
        }
    }

    void end() {
        mustBeAsked();
        System.out.println(asked + " answers looked at, " + wrong + " not as due");
        if (wrong != 0 || asked == 0) {
            System.exit(1);
        }
    }
}
