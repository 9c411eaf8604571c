/** Promises 21 to 24. */
final class OrderEdges extends Edges {
    OrderEdges(Doc doc, Checks checks) {
        super(doc, checks);
    }

    @Override
    void all() {
        change();
        ring();
        next();
        told();
    }

    private void change() {
        promise(21);
        sentence("It takes so many hours to change from a COLOUR to another one: what it was (0 at first).");
        Run x = withColours(empty(), 6);
        for (int from = 0; from < 6; from++) {
            for (int to = 0; to < 6; to++) {
                if (from != to) {
                    x.due(0, "change", from, to, 10 * from + to + 1);
                }
            }
        }
        x.due(51, "change", 5, 0, 7).due(7, "change", 5, 0, 7).due(6, "change", 0, 5, 6).due(2, "change", 0, 1, 0)
                .due(0, "change", 0, 1, 0);

        sentence("NO: one is none,");
        empty().refused("change", 0, 1, 1);
        withColours(empty(), 1).refused("change", 0, 1, 1).refused("change", 1, 0, 1);
        running().refused("change", 0, -1, 1).refused("change", -1, 0, 1).refused("change", 0, 3, 1)
                .refused("change", 3, 0, 1).refused("change", 0, LOW, 1).refused("change", HIGH, 0, 1)
                .due(0, "change", 0, 2, 1).due(0, "change", 2, 0, 1);
        withColours(empty(), 6).refused("change", 6, 0, 1).refused("change", 0, 6, 1).due(0, "change", 5, 0, 1);

        sentence("they are the same,");
        // a ring of a single colour would tell
        running().refused("change", 0, 0, 1).refused("change", 2, 2, 1).due(0, "ring", 1).due(0, "ring", 4);

        sentence("or hours are not 0..1000.");
        running().refused("change", 0, 1, -1).refused("change", 0, 1, 1001).refused("change", 0, 1, LOW)
                .refused("change", 0, 1, HIGH).due(5, "change", 0, 1, 0).due(0, "change", 0, 1, 1000)
                .due(1000, "change", 0, 1, 1);
    }

    /** Six colours; each change takes so many hours. */
    private Run six(int hours) {
        Run x = withColours(empty(), 6);
        for (int from = 0; from < 6; from++) {
            for (int to = 0; to < 6; to++) {
                if (from != to) {
                    x.set("change", from, to, hours);
                }
            }
        }
        return x;
    }

    private void ring() {
        promise(22);
        sentence("The least sum of hours of a ring of changes through all COLOURS of a set (bits), each once,"
                + " from the least of them back to it: that sum");
        six(1000).due(6000, "ring", 63).dues(row(0, 1, 2, 3, 4, 5, -1), "next").due(2000, "ring", 33)
                .dues(row(0, 5, -1), "next");
        int[] cheap = {0, 4, 2, 5, 1, 3};
        Run x = six(100);
        for (int i = 0; i < 6; i++) {
            x.set("change", cheap[i], cheap[(i + 1) % 6], i);
        }
        // without 0 and 4 the way from 3 back to 2 is dear
        x.due(15, "ring", 63).dues(row(0, 4, 2, 5, 1, 3, -1), "next")
                .due(2 + 3 + 4 + 100, "ring", 46).dues(row(1, 3, 2, 5, -1), "next");
        // the last order that there is
        x = six(9);
        int[] last = {0, 5, 4, 3, 2, 1};
        for (int i = 0; i < 6; i++) {
            x.set("change", last[i], last[(i + 1) % 6], 8);
        }
        x.due(48, "ring", 63).dues(row(0, 5, 4, 3, 2, 1, -1), "next");
        running().due(14, "ring", 3).due(0, "ring", 6).due(5, "ring", 7).dues(row(0, 1, 2, -1), "next")
                .set("change", 1, 2, 5).due(9, "ring", 7).dues(row(0, 2, 1, -1), "next");

        sentence("(0 of a single one).");
        x = six(1000);
        for (int c = 0; c < 6; c++) {
            x.due(0, "ring", 1 << c).dues(row(c, -1), "next");
        }

        sentence("NO: the set is empty,");
        empty().refused("ring", 0);
        running().refused("ring", 0).due(0, "ring", 1);

        sentence("or has a bit of none.");
        empty().refused("ring", 1).refused("ring", -1);
        running().refused("ring", 8).refused("ring", 15).due(5, "ring", 7);
        x = empty();
        for (int c = 0; c < 6; c++) {
            x.set("colour").refused("ring", 1 << (c + 1)).refused("ring", (1 << (c + 1)) + 1)
                    .due(0, "ring", (1 << (c + 1)) - 1);
        }
        x.refused("ring", 127).refused("ring", -1).refused("ring", LOW).refused("ring", LOW + 1).refused("ring", HIGH)
                .refused("ring", -64);
    }

    private void next() {
        promise(23);
        sentence("The k-th COLOUR, from 0 on, of the ring that ring() told latest:");
        // what comes later does not change what was told: a change, a colour, a refused ring
        Run x = running().dues(row(0, 1, -1), "next").set("ring", 7).dues(row(0, 1, 2, -1), "next")
                .set("change", 0, 1, 1000).set("colour").refused("ring", 0).refused("ring", 16)
                .dues(row(0, 1, 2, -1), "next");
        x.set("ring", 10).dues(row(1, 3, -1), "next").set("ring", 4).dues(row(2, -1), "next");

        sentence("of those with the least sum the one with the lesser COLOUR where two first differ;");
        six(0).due(0, "ring", 63).dues(row(0, 1, 2, 3, 4, 5), "next");
        // 0 1 3 2, 0 2 1 3 and no others take 4 hours
        x = six(9).set("change", 0, 1, 1).set("change", 1, 3, 1).set("change", 3, 2, 1).set("change", 2, 0, 1)
                .set("change", 0, 2, 1).set("change", 2, 1, 1).set("change", 3, 0, 1)
                .due(4, "ring", 15).dues(row(0, 1, 3, 2, -1), "next");
        // 0 2 1 3 is dearer by one now, then the other one by two
        x.set("change", 3, 0, 2).due(4, "ring", 15).dues(row(0, 1, 3, 2), "next")
                .set("change", 3, 2, 3).due(5, "ring", 15).dues(row(0, 2, 1, 3), "next");

        sentence("-1 when there is none such.");
        empty().keeps(-1, "next", 0);
        withColours(empty(), 6).keeps(-1, "next", 0).refused("ring", 64).due(-1, "next", 0).set("ring", 63)
                .due(5, "next", 5).keeps(-1, "next", 6).keeps(-1, "next", -1).keeps(-1, "next", LOW)
                .keeps(-1, "next", HIGH).keeps(-1, "next", NO).set("ring", 32).due(5, "next", 0).keeps(-1, "next", 1);
    }

    private void told() {
        promise(24);
        sentence("How many: 0 FEEDS, 1 CELLS, 2 COLOURS, 3 hours that went by, 4 grams of WASTE in all,");
        empty().dues(row(0, 3, 0, 0, 0), "told");
        running().dues(row(3, 3, 3, 8, 0), "told").set("want", -1).set("pull", 30).set("hours", 2).due(10, "told", 3)
                .due(60, "told", 4).set("want", 0).set("hours", 1).due(60, "told", 4);
        withColours(eightFeeds(), 6).set("tank", 6, 100, 100, 0).dues(row(8, 6, 6, 0, 0), "told");

        sentence("5 grams that were put in (not by filling),");
        running().due(800, "told", 5).set("pull", 1).set("hours", 1).due(801, "told", 5)
                .set("tank", 6, 100000, 100000, 0).due(0, "told", 5).due(0, "hours", 1).due(0, "told", 5);

        sentence("6 grams in THE TANK now.");
        empty().due(0, "told", 6);
        prepared().due(0, "told", 6).set("tank", 2, 100, 100, 0).due(200, "told", 6).set("hours", 3)
                .due(200, "told", 6).set("tank", 6, 100000, 1, 0).due(600000, "told", 6);
        // as much as can be wasted and put in: 400 hours of 100000 grams
        Run x = empty().set("feed", OWN, 1000, 0, 0, 0, 0, 0).set("stock", 0, 100000).set("share", 0, 1000).set("mix")
                .set("tank", 6, 100000, 100000, 0);
        for (int i = 0; i < 8; i++) {
            x.due(50, "hours", 50);
        }
        x.dues(row(1, 6, 0, 400, 40000000, 40000000, 600000), "told");

        sentence("NO: another what.");
        running().refused("told", -1).refused("told", 7).refused("told", LOW).refused("told", HIGH);
    }
}
