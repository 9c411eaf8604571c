/** The Terms about an hour, and about glass that is waste. */
final class FlowEdges extends Edges {
    FlowEdges(Doc doc, Checks checks) {
        super(doc, checks);
    }

    @Override
    void all() {
        terms();
        goingOut();
        sharedByLot();
        goingOn();
        comingIn();
        fromStocks();
        waste();
        wasteToStock();
    }

    /** What each cell has of a feed. */
    private void cellsHave(Run x, int f, int... grams) {
        for (int c = 0; c < grams.length; c++) {
            x.due(grams[c], "cell", c, f, -1);
        }
    }

    private void goingOut() {
        sentence("AN HOUR: from each CELL p grams go out, as all CELLS were at its beginning:");
        // all of each cell: what came in is one cell further after each hour, and no more than one
        Run x = twoCells().set("tank", 3, 100, 100, 0).set("hours", 1);
        cellsHave(x, 1, 100, 0, 0);
        x.set("hours", 1);
        cellsHave(x, 1, 100, 100, 0);
        x.set("hours", 1);
        cellsHave(x, 1, 100, 100, 100);
        cellsHave(x, 0, 0, 0, 0);
        // a single gram
        x = twoCells().set("tank", 2, 100, 1, 0).set("hours", 1).due(1, "glass", 0, 6);
        cellsHave(x, 0, 99, 100);
        cellsHave(x, 1, 1, 0);
    }

    /** Two cells with 4 grams in each of a lot's 32 numbers, then an hour, number 2, with such a pull. */
    private Run fullLots(int pull) {
        Run x = empty();
        for (int f = 0; f < 8; f++) {
            x.set("feed", SAND, 250, 250, 250, 250, 0, 0).set("stock", f, 1000).set("share", f, 125);
        }
        return x.set("mix").set("tank", 2, 128, 128, 0).set("hours", 2).set("pull", pull).set("hours", 1);
    }

    private void sharedByLot() {
        sentence("SHARED by its LOT (LOTS' numbers in order: FEED 0 with THING 0, 1, 2, 3, then FEED 1, and so on).");
        fullLots(1).dues(row(1, 0, 0, 0), "glass", 2).dues(row(1, 0, 0, 0, 0, 0, 0, 0), "lead", 2);
        fullLots(5).dues(row(2, 1, 1, 1), "glass", 2).dues(row(4, 1, 0, 0, 0, 0, 0, 0), "lead", 2);
        fullLots(31).dues(row(8, 8, 8, 7), "glass", 2).dues(row(4, 4, 4, 4, 4, 4, 4, 3), "lead", 2);
        fullLots(33).dues(row(9, 8, 8, 8), "glass", 2).dues(row(5, 4, 4, 4, 4, 4, 4, 4), "lead", 2);
        // 50 of feed 0 with thing 1, 50 of feed 1 with thing 0: the gram is feed 0's
        empty().set("feed", SAND, 0, 1000, 0, 0, 0, 0).set("feed", SAND, 1000, 0, 0, 0, 0, 0).set("stock", 1, 100)
                .set("share", 1, 1000).set("mix").set("tank", 2, 100, 50, 0).set("hours", 1).set("pull", 1)
                .set("hours", 1).due(49, "cell", 0, 0, 1).due(51, "cell", 0, 1, 0);
        // 99999 times 50000 is far above an int: 49999.5 each
        empty().set("feed", SAND, 500, 500, 0, 0, 0, 0).set("stock", 0, 200000).set("share", 0, 1000).set("mix")
                .set("tank", 2, 100000, 99999, 0).set("hours", 1).dues(row(50000, 49999, 0, 0), "glass", 0)
                .set("pull", 100000).set("hours", 1).dues(row(50000, 50000, 0, 0), "glass", 1);
    }

    private void goingOn() {
        sentence("What goes out of a CELL but the last comes into the next one; what goes out of the last is THE GLASS"
                + " of the hour.");
        Run x = twoCells().set("hours", 2);
        cellsHave(x, 0, 25, 75);
        cellsHave(x, 1, 75, 25);
        // 12.5 and 37.5 go out of cell 0, 37.5 and 12.5 out of cell 1: of equal rests the lower number first
        x.set("hours", 1);
        cellsHave(x, 0, 12, 50);
        cellsHave(x, 1, 88, 50);
        x.dues(row(38, 12, 0, 0), "glass", 2).dues(row(38, 12), "lead", 2);
        twoCells().set("tank", 2, 100, 100, 0).set("hours", 3).due(0, "lead", 1, 1).due(100, "lead", 2, 1);
        twoCells().set("tank", 6, 100, 100, 0).set("hours", 7).due(0, "lead", 5, 1).due(100, "lead", 6, 1);
    }

    /** Feeds with stock 1000 each and a mix of these shares, in a tank of 100 grams with such a pull. */
    private Run mixed(int pull, int... shares) {
        Run x = empty();
        for (int f = 0; f < shares.length; f++) {
            x.set("feed", SAND, 250, 250, 250, 250, 0, 0).set("stock", f, 1000).set("share", f, shares[f]);
        }
        return x.set("mix").set("tank", 2, 100, pull, 0);
    }

    private void stocksAre(Run x, int... grams) {
        for (int f = 0; f < grams.length; f++) {
            x.due(grams[f], "of", f, 7);
        }
    }

    private void comingIn() {
        sentence("p grams come into CELL 0: SHARED to FEEDS by THE MIX,");
        // 3.33, 3.33, 3.34
        stocksAre(mixed(10, 333, 333, 334).set("hours", 1), 997, 997, 996);
        stocksAre(mixed(1, 500, 500).set("hours", 1), 999, 1000);
        stocksAre(mixed(1, 499, 501).set("hours", 1), 1000, 999);
        stocksAre(mixed(9, 125, 125, 125, 125, 125, 125, 125, 125).set("hours", 1),
                998, 999, 999, 999, 999, 999, 999, 999);
        stocksAre(mixed(100, 0, 1000).set("hours", 1), 1000, 900);
        Run x = twoFeeds().set("stock", 0, 60000).set("stock", 1, 60000).set("share", 0, 500).set("share", 1, 500)
                .set("mix").set("tank", 2, 100000, 99999, 0).set("hours", 1);
        stocksAre(x, 10000, 10001);
        x.due(49999, "cell", 0, 1, 1);

        sentence("those of each FEED SHARED to its THINGS by its MAKE-UP;");
        // two grams of each, half a gram for each thing
        mixed(4, 0, 500, 500).set("hours", 1).dues(row(1, 1, 0, 0), "cell", 0, 1).dues(row(1, 1, 0, 0), "cell", 0, 2);
        // a feed that gives no gram gives no thing
        mixed(1, 0, 500, 500).set("hours", 1).dues(row(1, 0, 0, 0), "cell", 0, 1).dues(row(0, 0, 0, 0), "cell", 0, 2);
    }

    private void fromStocks() {
        sentence("they go from its STOCK.");
        stocksAre(mixed(100, 700, 300, 0).set("hours", 1), 930, 970, 1000);
        stocksAre(mixed(100, 1000).set("hours", 10), 0);

        sentence("(An hour can go by if each STOCK has, at its beginning, what THE MIX takes of it;");
        Run x = twoFeeds().set("share", 0, 500).set("share", 1, 500).set("mix").set("tank", 2, 100, 10, 0)
                .keeps(0, "hours", 1).set("stock", 0, 5).keeps(0, "hours", 1).set("stock", 1, 4).keeps(0, "hours", 1)
                .set("stock", 1, 1).due(1, "hours", 2).keeps(0, "hours", 1);
        stocksAre(x, 0, 0);
        // 9.99 and 0.01 grams: the second one gives none, and needs none
        twoFeeds().set("share", 0, 999).set("share", 1, 1).set("mix").set("tank", 2, 100, 10, 0).set("stock", 0, 10)
                .due(1, "hours", 1).due(0, "of", 0, 7).due(0, "of", 1, 7);
        // the last feed that there may be
        eightFeeds().set("share", 7, 1000).set("mix").set("tank", 2, 100, 10, 0).set("stock", 7, 9)
                .keeps(0, "hours", 1).set("stock", 7, 1).due(1, "hours", 2).due(0, "of", 7, 7);

        sentence("WASTE comes to a STOCK at its end.)");
        empty().set("feed", OWN, 1000, 0, 0, 0, 0, 0).set("share", 0, 1000).set("mix").set("tank", 2, 100, 10, 0)
                .keeps(0, "hours", 50).set("stock", 0, 9).keeps(0, "hours", 50).set("stock", 0, 1)
                .due(50, "hours", 50).due(10, "of", 0, 7);
    }

    private void waste() {
        sentence("GLASS whose NAME is not WANTED (all, while none is) is WASTE:");
        // all, while none is wanted: without a name and with one
        Run x = twoCells().set("hours", 1).due(-1, "glass", 0, 4).due(1, "glass", 0, 5);
        withColours(x, 2).set("hours", 1).due(0, "glass", 1, 4).due(1, "glass", 1, 5).due(100, "told", 4);
        // its name is wanted; then another colour that it is of too, but that is not its name
        x.set("want", 0).set("hours", 1).due(0, "glass", 2, 4).due(0, "glass", 2, 5).due(100, "told", 4)
                .set("want", 1).set("hours", 1).due(0, "glass", 3, 4).due(1, "glass", 3, 5).due(150, "told", 4);
        // one is wanted, and the glass has no name
        x.set("span", 0, 3, 1, 1000).set("span", 1, 3, 1, 1000).set("hours", 1).due(-1, "glass", 4, 4)
                .due(1, "glass", 4, 5).due(200, "told", 4);
    }

    /** Sand alone goes in, with as much of it as there may be, and no glass is wanted. */
    private Run wasting(int... kinds) {
        Run x = empty();
        for (int kind : kinds) {
            x.set("feed", kind, 1000, 0, 0, 0, 0, 0);
        }
        return x.set("stock", 0, 10000000).set("share", 0, 1000).set("mix").set("tank", 2, 100, 10, 0);
    }

    private void wasteToStock() {
        sentence("if there is a FEED of KIND OWN, the first such FEED gets these grams for its STOCK");
        stocksAre(wasting(SAND, BROKEN, TINT, OWN, OWN).set("hours", 3), 9999970, 0, 0, 30, 0);
        stocksAre(wasting(SAND, SAND, SAND, SAND, SAND, SAND, SAND, OWN).set("hours", 1),
                9999990, 0, 0, 0, 0, 0, 0, 10);
        Run x = wasting(SAND, BROKEN, TINT).set("hours", 3).due(30, "told", 4);
        stocksAre(x, 9999970, 0, 0);
        // one that is new gets what comes from now on
        x.set("feed", OWN, 1000, 0, 0, 0, 0, 0).set("hours", 1).due(10, "of", 3, 7).due(40, "told", 4);
        // glass that is wanted does not come back
        withColours(x, 1).set("want", 0).set("hours", 1).due(10, "of", 3, 7).due(40, "told", 4);

        sentence("(up to 10000000; more is lost).");
        wasting(SAND, OWN).set("stock", 1, 9999985).set("hours", 1).due(9999995, "of", 1, 7)
                .set("hours", 1).due(10000000, "of", 1, 7).set("hours", 1).due(10000000, "of", 1, 7).due(30, "told", 4);
        wasting(SAND, OWN).set("stock", 1, 9999990).set("hours", 1).due(10000000, "of", 1, 7);
        // what goes in from a full stock makes room for what comes back
        wasting(OWN).set("hours", 2).due(10000000, "of", 0, 7).due(20, "told", 4);
    }
}
