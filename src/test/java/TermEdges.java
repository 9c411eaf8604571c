/** What the document says of all calls. */
final class TermEdges extends Edges {
    TermEdges(Doc doc, Checks checks) {
        super(doc, checks);
    }

    @Override
    void all() {
        lastCall();
        questions();
        refusals();
    }

    private void lastCall() {
        section("What it is");
        sentence("An object is used for at most 512 calls after it has been made;");
        Run x = twoCells();
        while (x.callCount() < Run.MOST_CALLS - 2) {
            x.due(2, "told", 0);
        }
        x.due(50, "hours", 50).due(50, "glass", 49, 6);
    }

    private void questions() {
        section("Not promised");
        sentence("Nothing is promised beyond the answers and state changes described above,");
        running().keeps(700, "of", 0, 0).keeps(100, "of", 1, 8).keeps(1000, "cell", 2, -1, -1)
                .keeps(28, "cell", 0, 1, 2).keeps(1, "sure", 1).keeps(0, "sure", 0).keeps(0, "glass", 7, 4).keeps(100, "lead", 7, 0)
                .keeps(1, "next", 1).keeps(800, "told", 5);
    }

    private void refusals() {
        terms();
        sentence("NO is what a refused call answers; it changes nothing.");
        checks.due("NO", GlassTank.NO, -1000000000);
        running().refused("pull", 0).refused("told", 7);

        sentence("What is wrong is asked in the order in which it is told.");
        // all is wrong at once
        running().refused("feed", 4, -1, 1, 1, 1, 101, 10001).refused("stock", 3, -1).refused("of", 3, 9)
                .refused("tank", 7, 99, 0, 3).refused("share", 3, 1001).refused("span", 3, 4, 1001, -1)
                .refused("glass", 8, 7).refused("lead", 8, 3).refused("dose", 3, 3).refused("change", 3, 3, 1001);
        empty().refused("cell", 3, 0, 4).refused("sure", 0).refused("cheapest", 0).refused("hours", 51)
                .refused("when", 0).refused("dose", 0, 0);
    }
}
