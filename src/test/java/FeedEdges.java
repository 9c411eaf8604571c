/** Promises 1 to 4: a new object, and the feeds. */
final class FeedEdges extends Edges {
    FeedEdges(Doc doc, Checks checks) {
        super(doc, checks);
    }

    @Override
    void all() {
        newObject();
        feed();
        feedRefused();
        stock();
        of();
    }

    private void newObject() {
        promise(1);
        sentence("3 CELLS of 1000 grams, a PULL of 100;");
        empty().due(3, "told", 1).refused("pull", 1001).due(100, "pull", 1000).due(1000, "pull", 1);

        sentence("no FEEDS, so the CELLS have nothing yet.");
        empty().dues(row(0, 3, 0, 0, 0, 0, 0), "told")
                .refused("of", 0, 0).refused("stock", 0, 0).refused("share", 0, 0).refused("tank", 3, 1000, 100, 0)
                .refused("cell", 0, -1, -1).refused("cell", 2, -1, -1);
    }

    private void feed() {
        promise(2);
        sentence("A new FEED: its number;");
        Run x = empty();
        for (int f = 0; f < 8; f++) {
            x.due(f, "feed", f % 4, 1000, 0, 0, 0, 0, 0).due(f + 1, "told", 0);
        }

        sentence("a, b, c, d are its MAKE-UP.");
        empty().set("feed", SAND, 1, 2, 3, 994, 0, 0).dues(row(1, 2, 3, 994), "of", 0);

        sentence("Its STOCK is 0.");
        // a stock, and waste that came to one, are another feed's
        x = running().set("want", -1).set("hours", 1);
        for (int f = 3; f < 8; f++) {
            x.due(f, "feed", OWN, 1000, 0, 0, 0, 0, 0).due(0, "of", f, 7);
        }
    }

    private void feedRefused() {
        sentence("NO: no such KIND;");
        term("each with a KIND: 0 SAND, 1 BROKEN, 2 TINT, 3 OWN (broken glass of the works);");
        Run x = running();
        for (int kind = 0; kind < 4; kind++) {
            x.due(3 + kind, "feed", kind, 1000, 0, 0, 0, 0, 0).due(kind, "of", 3 + kind, 4);
        }
        x.refused("feed", -1, 1000, 0, 0, 0, 0, 0).refused("feed", 4, 1000, 0, 0, 0, 0, 0)
                .refused("feed", LOW, 1000, 0, 0, 0, 0, 0).refused("feed", HIGH, 1000, 0, 0, 0, 0, 0);

        sentence("one is below 0,");
        running().refused("feed", SAND, -1, 1001, 0, 0, 0, 0).refused("feed", SAND, 1001, -1, 0, 0, 0, 0)
                .refused("feed", SAND, 0, 1001, -1, 0, 0, 0).refused("feed", SAND, 0, 0, 1001, -1, 0, 0)
                // together these are 1000 with wrap-around
                .refused("feed", SAND, LOW, LOW, 500, 500, 0, 0)
                .due(3, "feed", SAND, 0, 0, 1, 999, 0, 0);

        sentence("or they are not 1000 together;");
        term("a MAKE-UP: how many thousandths of it each THING is, 1000 together;");
        running().refused("feed", SAND, 0, 0, 0, 0, 0, 0)
                .refused("feed", SAND, 999, 0, 0, 0, 0, 0).refused("feed", SAND, 1001, 0, 0, 0, 0, 0)
                .refused("feed", SAND, 250, 250, 250, 249, 0, 0).refused("feed", SAND, 250, 250, 250, 251, 0, 0)
                .refused("feed", SAND, 1 << 30, 1 << 30, 1 << 30, (1 << 30) + 1000, 0, 0)
                .refused("feed", SAND, HIGH, HIGH, 1002, 0, 0, 0)
                .due(3, "feed", SAND, 250, 250, 250, 250, 0, 0);
        empty().due(0, "feed", SAND, 1000, 0, 0, 0, 0, 0).due(1, "feed", SAND, 0, 1000, 0, 0, 0, 0)
                .due(2, "feed", SAND, 0, 0, 1000, 0, 0, 0).due(3, "feed", SAND, 0, 0, 0, 1000, 0, 0);

        doubtAndPriceRefused();

        sentence("or there are 8.");
        term("FEEDS are numbered from 0, 8 at most,");
        x = full().due(8, "told", 0);
        for (int kind = 0; kind < 4; kind++) {
            x.refused("feed", kind, 0, 1000, 0, 0, 0, 7);
        }
    }

    private void doubtAndPriceRefused() {
        sentence("DOUBT is not 0..100,");
        running().refused("feed", BROKEN, 1000, 0, 0, 0, -1, 0).refused("feed", BROKEN, 1000, 0, 0, 0, 101, 0)
                .refused("feed", OWN, 1000, 0, 0, 0, -1, 0).refused("feed", OWN, 1000, 0, 0, 0, 101, 0)
                .refused("feed", BROKEN, 1000, 0, 0, 0, LOW, 0).refused("feed", OWN, 1000, 0, 0, 0, HIGH, 0)
                .due(3, "feed", BROKEN, 1000, 0, 0, 0, 0, 0).due(0, "of", 3, 5)
                .due(4, "feed", BROKEN, 1000, 0, 0, 0, 100, 0).due(100, "of", 4, 5)
                .due(5, "feed", OWN, 1000, 0, 0, 0, 0, 0).due(0, "of", 5, 5)
                .due(6, "feed", OWN, 1000, 0, 0, 0, 100, 0).due(100, "of", 6, 5);

        sentence("or (SAND, TINT) not 0;");
        term("a DOUBT (of BROKEN, OWN; 0 to 100; of others 0):");
        running().refused("feed", SAND, 1000, 0, 0, 0, 1, 0).refused("feed", SAND, 1000, 0, 0, 0, -1, 0)
                .refused("feed", TINT, 1000, 0, 0, 0, 1, 0).refused("feed", TINT, 1000, 0, 0, 0, -1, 0)
                .refused("feed", SAND, 1000, 0, 0, 0, 100, 0).refused("feed", TINT, 1000, 0, 0, 0, 100, 0)
                .due(3, "feed", SAND, 1000, 0, 0, 0, 0, 0).due(4, "feed", TINT, 1000, 0, 0, 0, 0, 0);

        sentence("price not 0..10000;");
        term("a PRICE (0 to 10000 for 1000 grams);");
        running().refused("feed", SAND, 1000, 0, 0, 0, 0, -1).refused("feed", SAND, 1000, 0, 0, 0, 0, 10001)
                .refused("feed", OWN, 1000, 0, 0, 0, 0, LOW).refused("feed", OWN, 1000, 0, 0, 0, 0, HIGH)
                .due(3, "feed", SAND, 1000, 0, 0, 0, 0, 0).due(0, "of", 3, 6)
                .due(4, "feed", OWN, 1000, 0, 0, 0, 0, 10000).due(10000, "of", 4, 6);
    }

    private void stock() {
        promise(3);
        sentence("The STOCK of a FEED grows by so many grams: what it is then.");
        twoFeeds().due(7, "stock", 0, 7).due(10, "stock", 0, 3).due(10, "of", 0, 7).due(0, "of", 1, 7)
                .due(10, "stock", 0, 0);

        sentence("NO: no such FEED,");
        empty().refused("stock", 0, 1);
        running().refused("stock", -1, 1).refused("stock", 3, 1).refused("stock", 8, 1)
                .refused("stock", LOW, 1).refused("stock", HIGH, 1).due(1, "stock", 2, 1).due(4281, "stock", 0, 1);
        eightFeeds().refused("stock", 8, 1).due(1, "stock", 7, 1);

        sentence("grams below 0,");
        running().set("stock", 2, 5).refused("stock", 2, -1).refused("stock", 2, -5).refused("stock", 2, LOW)
                .refused("stock", 0, -1).due(5, "stock", 2, 0);
        twoFeeds().refused("stock", 1, -1).due(0, "stock", 1, 0);

        sentence("or it would be above 10000000.");
        term("a STOCK in grams (0 to 10000000).");
        running().set("stock", 2, 10).refused("stock", 2, 9999991)
                // wraps to below 0
                .refused("stock", 2, HIGH)
                .due(10000000, "stock", 2, 9999990).refused("stock", 2, 1).due(10000000, "stock", 2, 0);
        twoFeeds().refused("stock", 1, 10000001).due(10000000, "stock", 1, 10000000);
    }

    private void of() {
        promise(4);
        sentence("Of a FEED: 0 to 3 its MAKE-UP, 4 KIND, 5 DOUBT, 6 PRICE, 7 STOCK,");
        twoFeeds().set("feed", BROKEN, 100, 200, 300, 400, 55, 66).set("stock", 2, 77)
                .dues(row(100, 200, 300, 400, BROKEN, 55, 66, 77), "of", 2)
                .dues(row(0, 1000, 0, 0, BROKEN, 0, 1, 0), "of", 1);

        sentence("8 its share in THE MIX (0 without one).");
        twoFeeds().set("share", 1, 1000).due(0, "of", 1, 8).set("mix").due(1000, "of", 1, 8).due(0, "of", 0, 8)
                .set("share", 1, 999).due(1000, "of", 1, 8)
                .set("feed", SAND, 1000, 0, 0, 0, 0, 0).due(0, "of", 2, 8);
        eightFeeds().set("share", 7, 1000).set("mix").due(1000, "of", 7, 8);

        sentence("NO: no such FEED");
        empty().refused("of", 0, 0);
        running().refused("of", -1, 0).refused("of", 3, 0).refused("of", 7, 8).refused("of", LOW, 0)
                .refused("of", HIGH, 0).due(690, "of", 2, 0);
        eightFeeds().refused("of", 8, 0).due(1000, "of", 7, 0);

        sentence("or what.");
        running().refused("of", 0, -1).refused("of", 0, 9).refused("of", 2, LOW).refused("of", 2, HIGH)
                .due(700, "of", 0, 0).due(900, "of", 0, 8);
    }
}
