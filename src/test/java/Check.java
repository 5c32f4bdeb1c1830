/** Counts the answers that are not as due; every test ends with it. */
final class Check {
    private int made = 0;
    private int wrong = 0;
    private int sentences = 0;
    private int madeAtStart = 0;
    private String sentence = "";

    /** The checks that follow hold one sentence of the document; each sentence needs one at least. */
    void sentence(String text) {
        closeSentence();
        sentences++;
        sentence = text + ": ";
        madeAtStart = made;
    }

    private void closeSentence() {
        if (sentences > 0 && made == madeAtStart) {
            wrong++;
            System.out.println("nothing looked at for: " + sentence);
        }
    }

    void due(String call, long got, long want) {
        made++;
        if (got != want) {
            wrong++;
            System.out.println(sentence + call + " answered " + got + ", due is " + want);
        }
    }

    void holds(String what, boolean is) {
        made++;
        if (!is) {
            wrong++;
            System.out.println(sentence + "does not hold: " + what);
        }
    }

    boolean failed() {
        return wrong > 0;
    }

    void end() {
        closeSentence();
        String told = sentences > 0 ? sentences + " sentences, " : "";
        System.out.println(told + made + " checks, " + wrong + " wrong");
        if (wrong > 0 || made == 0) {
            System.exit(1);
        }
    }
}
