/** Promises 14 to 17, and the Terms about the colour of glass. */
final class HourEdges extends Edges {
    HourEdges(Doc doc, Checks checks) {
        super(doc, checks);
    }

    @Override
    void all() {
        glassOfAColour();
        name();
        want();
        hours();
        hoursRefused();
        glass();
        glassRefused();
        lead();
    }

    /** All glass is of that make-up. */
    private Run steady(int w, int p, int a, int b, int c, int d) {
        return empty().set("feed", SAND, a, b, c, d, 0, 0).set("stock", 0, 10000000).set("share", 0, 1000).set("mix")
                .set("tank", 2, w, p, 0);
    }

    private void isOfFirst(Run x, int t, int least, int most, int when) {
        x.set("span", 0, t, least, most).due(when, "when", 0).set("span", 0, t, 0, 1000);
    }

    private void glassOfAColour() {
        terms();
        sentence("GLASS of g grams is of a COLOUR if for each THING 1000 times its grams");
        int[] thousandths = {500, 300, 150, 50};
        Run x = withColours(steady(1000, 100, 500, 300, 150, 50), 1);
        for (int t = 0; t < 4; t++) {
            isOfFirst(x, t, thousandths[t], thousandths[t], 1);
            isOfFirst(x, t, thousandths[t] + 1, 1000, 0);
            isOfFirst(x, t, 0, thousandths[t] - 1, 0);
        }
        // 1 gram of 3
        x = withColours(steady(100, 3, 667, 333, 0, 0), 1).set("hours", 1).due(1, "glass", 0, 1);
        sentence("is LEAST times g at least");
        isOfFirst(x, 1, 333, 1000, 1);
        isOfFirst(x, 1, 334, 1000, 0);
        isOfFirst(x, 2, 0, 1000, 1);
        isOfFirst(x, 2, 1, 1000, 0);
        sentence("and MOST times g at most.");
        isOfFirst(x, 1, 0, 334, 1);
        isOfFirst(x, 1, 0, 333, 0);
        isOfFirst(x, 2, 0, 0, 1);
        // as great as glass may be
        x = withColours(steady(100000, 100000, 999, 1, 0, 0), 1);
        isOfFirst(x, 0, 999, 999, 1);
        isOfFirst(x, 0, 1000, 1000, 0);
        isOfFirst(x, 1, 0, 0, 0);
    }

    private void name() {
        sentence("Its NAME is the first such COLOUR, or none.");
        Run x = steady(100, 10, 1000, 0, 0, 0).set("hours", 1).due(-1, "glass", 0, 4);
        withColours(x, 6);
        for (int c = 0; c < 6; c++) {
            x.set("hours", 1).due(c, "glass", c + 1, 4).set("span", c, 0, 0, 999);
        }
        x.set("hours", 1).due(-1, "glass", 7, 4).set("span", 3, 0, 0, 1000).set("hours", 1).due(3, "glass", 8, 4);
    }

    private void want() {
        promise(14);
        sentence("THE WANTED becomes a COLOUR, or none (-1): what it was.");
        term("THE WANTED is a COLOUR, or none (at first).");
        empty().due(-1, "want", -1);
        withColours(empty(), 6).due(-1, "want", 5).due(5, "want", 0).due(0, "want", 0).due(0, "want", -1)
                .due(-1, "want", -1);

        sentence("NO: no such COLOUR.");
        empty().refused("want", 0);
        running().refused("want", -2).refused("want", 3).refused("want", LOW).refused("want", HIGH)
                .refused("want", NO).due(0, "want", 2).refused("want", 3).due(2, "want", -1);
        withColours(empty(), 6).refused("want", 6).due(-1, "want", 5);
    }

    private void hours() {
        promise(15);
        sentence("So many hours go by: how many did, till one can not:");
        twoCells().due(1, "hours", 1).due(1, "told", 3).due(50, "hours", 50).due(51, "told", 3)
                .due(51 * 50, "told", 5);
        Run x = twoFeeds().set("stock", 1, 149).set("share", 1, 1000).set("mix").set("tank", 2, 100, 50, 0)
                .due(2, "hours", 50).due(2, "told", 3).due(49, "of", 1, 7).keeps(0, "hours", 50)
                .set("stock", 1, 1).due(1, "hours", 1).due(3, "told", 3).due(150, "told", 5);
        x.set("stock", 1, 100).due(2, "hours", 2).due(0, "of", 1, 7);

        sentence("a STOCK has not what THE MIX takes of it.");
        // 3, 3 and 4 grams an hour; each in its turn is the one that ends
        x = empty();
        for (int f = 0; f < 3; f++) {
            x.set("feed", SAND, 1000, 0, 0, 0, 0, 0).set("share", f, f == 2 ? 334 : 333);
        }
        x.set("mix").set("tank", 2, 100, 10, 0).set("stock", 0, 6).set("stock", 1, 100).set("stock", 2, 11)
                .due(2, "hours", 50).due(0, "of", 0, 7).due(94, "of", 1, 7).due(3, "of", 2, 7)
                .set("stock", 0, 100).keeps(0, "hours", 50).set("stock", 2, 1).due(1, "hours", 50)
                .due(97, "of", 0, 7).due(91, "of", 1, 7).due(0, "of", 2, 7).due(30, "told", 5);
    }

    private void hoursRefused() {
        sentence("NO: n is not 1..50;");
        running().refused("hours", 0).refused("hours", 51).refused("hours", -1).refused("hours", LOW)
                .refused("hours", HIGH).due(1, "hours", 1);
        twoCells().refused("hours", 51).due(50, "hours", 50);

        sentence("THE TANK was not made,");
        prepared().refused("hours", 1).refused("tank", 3, 1000, 1001, 0).refused("hours", 1)
                .set("tank", 3, 1000, 100, 0).due(1, "hours", 1);

        sentence("there is no MIX,");
        twoFeeds().set("stock", 0, 100).set("tank", 2, 100, 10, 0).refused("hours", 1)
                .set("share", 0, 1000).refused("hours", 1).set("mix").due(1, "hours", 1);

        sentence("or there would be more than 400 hours.");
        term("HOURS are numbered from 0 as they go by, 400 at most.");
        Run x = twoCells();
        for (int i = 0; i < 7; i++) {
            x.due(50, "hours", 50);
        }
        x.due(1, "hours", 1).refused("hours", 50).due(49, "hours", 49).due(400, "told", 3)
                .refused("hours", 1).refused("hours", 50).due(50, "glass", 399, 6).refused("glass", 400, 6)
                .set("tank", 2, 100, 50, 0).due(50, "hours", 50);
        // all but full: one more goes by, two are refused, though the stock is for one only
        x = twoFeeds().set("stock", 1, 400).set("share", 1, 1000).set("mix").set("tank", 2, 100, 1, 0);
        for (int i = 0; i < 7; i++) {
            x.due(50, "hours", 50);
        }
        x.due(49, "hours", 49).refused("hours", 2).due(1, "hours", 1).refused("hours", 1);
    }

    private void glass() {
        promise(16);
        sentence("Of THE GLASS of an hour: 0 to 3 grams of a THING,");
        steady(1000, 100, 500, 300, 150, 50).set("hours", 1).dues(row(50, 30, 15, 5), "glass", 0);
        // a thing of two feeds: 25 and 30 grams of thing 0, 25 and 20 of thing 1
        empty().set("feed", SAND, 500, 500, 0, 0, 0, 0).set("feed", SAND, 600, 400, 0, 0, 0, 0).set("stock", 0, 1000)
                .set("stock", 1, 1000).set("share", 0, 500).set("share", 1, 500).set("mix").set("tank", 2, 100, 100, 0)
                .set("hours", 3).dues(row(50, 50, 0, 0), "glass", 1).dues(row(55, 45, 0, 0), "glass", 2);

        sentence("4 its NAME (-1 for none) as COLOURS were then,");
        Run x = twoCells().set("hours", 1);
        withColours(x, 2).set("hours", 1).set("span", 0, 0, 0, 0).set("hours", 1).set("span", 1, 0, 0, 0)
                .set("hours", 1).due(-1, "glass", 0, 4).due(0, "glass", 1, 4).due(1, "glass", 2, 4)
                .due(-1, "glass", 3, 4);

        sentence("5 1 if it was WASTE, else 0,");
        x = withColours(steady(100, 10, 1000, 0, 0, 0), 2).set("want", 0).set("hours", 1).set("want", 1).set("hours", 1)
                .set("want", -1).set("hours", 1).due(0, "glass", 0, 5).due(1, "glass", 1, 5).due(1, "glass", 2, 5);
        x.set("want", 0).set("span", 0, 0, 0, 0).due(0, "glass", 0, 5).due(1, "glass", 2, 5);

        sentence("6 grams.");
        steady(100, 1, 1000, 0, 0, 0).set("hours", 1).set("pull", 100).set("hours", 1).set("pull", 50)
                .due(1, "glass", 0, 6).due(100, "glass", 1, 6);
    }

    private void glassRefused() {
        sentence("NO: there was no such hour,");
        twoCells().refused("glass", 0, 0).set("hours", 2).refused("glass", -1, 0).refused("glass", 2, 0)
                .refused("glass", LOW, 6).refused("glass", HIGH, 6).refused("glass", 1 << 30, 0)
                .due(50, "glass", 0, 0).due(50, "glass", 1, 0);
        running().refused("glass", -1, 0).refused("glass", 8, 0).due(70, "glass", 7, 0);
        prepared().refused("glass", 0, 0);

        sentence("or what.");
        running().refused("glass", 0, -1).refused("glass", 0, 7).refused("glass", 7, LOW).refused("glass", 7, HIGH)
                .due(70, "glass", 0, 0).due(100, "glass", 7, 6);
    }

    private void lead() {
        promise(17);
        sentence("Grams of THE GLASS of an hour that were put in as a FEED.");
        // both feeds are alike, but each gram is known by its own
        Run x = empty().set("feed", SAND, 600, 400, 0, 0, 0, 0).set("feed", BROKEN, 600, 400, 0, 0, 0, 0)
                .set("stock", 1, 1000).set("share", 1, 1000).set("mix").set("tank", 2, 100, 100, 0).set("hours", 3)
                .dues(row(100, 0), "lead", 0).dues(row(100, 0), "lead", 1).dues(row(0, 100), "lead", 2)
                .due(60, "glass", 2, 0);
        // a feed that came later put nothing in
        x.set("feed", SAND, 600, 400, 0, 0, 0, 0).dues(row(0, 100, 0), "lead", 2);

        sentence("NO: there was no such hour,");
        twoCells().refused("lead", 0, 0).set("hours", 2).refused("lead", -1, 0).refused("lead", 2, 0)
                .refused("lead", LOW, 0).refused("lead", HIGH, 0).refused("lead", 1 << 30, 0)
                .due(50, "lead", 0, 0).due(50, "lead", 1, 0);
        running().refused("lead", -1, 0).refused("lead", 8, 0).due(100, "lead", 7, 0);
        prepared().refused("lead", 0, 0);

        sentence("or FEED.");
        twoCells().set("hours", 2).refused("lead", 0, -1).refused("lead", 0, 2).refused("lead", 1, -1)
                .refused("lead", 0, LOW).refused("lead", 0, HIGH).due(0, "lead", 0, 1);
        eightFeeds().set("stock", 7, 10).set("share", 7, 1000).set("mix").set("tank", 2, 100, 10, 7).set("hours", 1)
                .refused("lead", 0, 8).due(10, "lead", 0, 7);
    }
}
