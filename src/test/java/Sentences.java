/** Asks of the document sentence by sentence: each has a test of its own, and a wrong answer tells which it breaks. */
final class Sentences {
    private final Expect expect;
    private int sentences = 0;

    Sentences(Expect expect) {
        this.expect = expect;
    }

    /** The words are the document's own. */
    void hold(String words, Runnable test) {
        int asked = expect.asked();
        int wrong = expect.wrong();
        test.run();
        sentences++;
        expect.holds("something is asked of \"" + words + "\"", expect.asked() > asked);
        if (expect.wrong() > wrong) {
            System.out.println("  broken: \"" + words + "\"");
        }
    }

    void finish() {
        System.out.print(sentences + " sentences, ");
        expect.finish();
    }
}
