/**
 * Tests of DOC.md sentence by sentence. A test quotes the words that it tests;
 * the answers asked for up to the next quote are that test.
 */
abstract class Edges {
    static final int NO = Run.NO;
    static final int SAND = Sample.SAND;
    static final int BROKEN = Sample.BROKEN;
    static final int TINT = Sample.TINT;
    static final int OWN = Sample.OWN;
    static final int LOW = Integer.MIN_VALUE;
    static final int HIGH = Integer.MAX_VALUE;

    final Checks checks;
    private final Doc doc;
    private String section = "";
    private String place = "";
    private int askedBefore;

    Edges(Doc doc, Checks checks) {
        this.doc = doc;
        this.checks = checks;
    }

    abstract void all();

    final void run() {
        all();
        endTest();
    }

    final void section(String name) {
        section = name;
    }

    final void terms() {
        section(Doc.TERMS);
    }

    final void promise(int number) {
        section(Doc.promise(number));
    }

    /** Begins the test of a sentence, or of a part of it that stands by itself. */
    final void sentence(String words) {
        endTest();
        place = section + ", \"" + words + "\"";
        askedBefore = checks.asked() + 1;
        checks.at(place);
        checks.holds("the document says so", doc.quote(section, words));
    }

    /** The test that has begun is that of the Terms' sentence too, which names the same bound. */
    final void term(String words) {
        askedBefore++;
        checks.holds("the Terms say \"" + words + "\"", doc.quote(Doc.TERMS, words));
    }

    private void endTest() {
        if (!place.isEmpty()) {
            checks.holds("the sentence has a test", checks.asked() > askedBefore);
        }
    }

    static int[] row(int... numbers) {
        return numbers;
    }

    final Run empty() {
        return new Run(checks);
    }

    final Run prepared() {
        return Sample.prepared(checks);
    }

    final Run running() {
        return Sample.running(checks);
    }

    final Run twoFeeds() {
        return Sample.twoFeeds(checks);
    }

    final Run twoCells() {
        return Sample.twoCells(checks);
    }

    final Run eightFeeds() {
        return Sample.eightFeeds(checks);
    }

    final Run full() {
        return Sample.full(checks);
    }

    final Run withColours(Run x, int count) {
        return Sample.withColours(x, count);
    }
}
