/** Promises 5 to 7, and the Terms about sharing and filling. */
final class TankEdges extends Edges {
    TankEdges(Doc doc, Checks checks) {
        super(doc, checks);
    }

    @Override
    void all() {
        sharing();
        tank();
        tankRefused();
        pull();
        cell();
    }

    /** Two cells of so many grams, filled by a feed of that make-up: what each thing gets. */
    private void filled(int grams, int[] makeUp, int... parts) {
        empty().set("feed", SAND, makeUp[0], makeUp[1], makeUp[2], makeUp[3], 0, 0).set("tank", 2, grams, 1, 0)
                .dues(parts, "cell", 1, 0);
    }

    private void sharing() {
        terms();
        sentence("TO SHARE a number of grams by WEIGHTS (whole numbers, not all 0):");
        filled(100, row(0, 0, 0, 1000), 0, 0, 0, 100);
        filled(101, row(0, 500, 0, 500), 0, 51, 0, 50);

        sentence("each gets the grams times its weight by all weights, cut;");
        filled(1000, row(1, 2, 3, 994), 1, 2, 3, 994);
        filled(100000, row(1, 2, 3, 994), 100, 200, 300, 99400);
        // 0.1, 0.2, 0.3 and 99.4: cut, not rounded up
        filled(100, row(1, 2, 3, 994), 0, 0, 0, 100);

        sentence("of the grams that are left then one each goes to those with the greatest rest of that division,");
        // 10.3, 31.003, 31.106, 30.591: one gram is left
        filled(103, row(100, 301, 302, 297), 10, 31, 31, 31);
        // 19.9, 19.9, 29.8, 30.4: three are left
        filled(100, row(199, 199, 298, 304), 20, 20, 30, 30);

        sentence("of several the lower number first.");
        filled(100, row(995, 5, 0, 0), 100, 0, 0, 0);
        filled(100, row(5, 995, 0, 0), 1, 99, 0, 0);
        filled(100, row(0, 0, 5, 995), 0, 0, 1, 99);
        filled(101, row(250, 250, 250, 250), 26, 25, 25, 25);
        filled(102, row(250, 250, 250, 250), 26, 26, 25, 25);
        filled(103, row(250, 250, 250, 250), 26, 26, 26, 25);

        sentence("FILLED by a FEED each CELL has W grams, SHARED to its THINGS by its MAKE-UP.");
        Run x = empty().set("feed", SAND, 1000, 0, 0, 0, 0, 0).set("feed", TINT, 5, 0, 0, 995, 0, 0)
                .set("tank", 6, 100, 1, 1);
        for (int c = 0; c < 6; c++) {
            x.dues(row(1, 0, 0, 99), "cell", c, 1).due(0, "cell", c, 0, -1);
        }
    }

    private void tank() {
        promise(5);
        sentence("THE TANK is made anew and FILLED by a FEED (STOCKS are not asked): 1.");
        twoFeeds().due(1, "tank", 2, 100, 1, 1).due(100, "cell", 0, 1, 1).due(0, "of", 1, 7);
        // what is not the tank's stays: stocks, shares, wanted, ring
        Run x = running().set("pull", 77).due(1, "tank", 6, 100000, 100000, 2)
                .due(4280, "of", 0, 7).due(820, "of", 1, 7).due(0, "of", 2, 7)
                .due(900, "of", 0, 8).due(900, "share", 0, 900).due(1, "next", 1).due(5, "change", 0, 1, 5)
                .due(3, "told", 0).due(3, "told", 2).due(0, "when", 2);
        for (int c = 0; c < 6; c++) {
            x.dues(row(69000, 29000, 1500, 500), "cell", c, 2).due(100000, "cell", c, -1, -1);
        }
        x.due(0, "want", 0).due(100000, "pull", 1);
        // a smaller one, then a greater one again: nothing is left of what was there
        x.due(1, "tank", 2, 100, 1, 0).due(1, "tank", 6, 100, 1, 0).due(0, "cell", 5, 2, -1)
                .due(100, "cell", 5, 0, -1);
        // the last number of a lot
        lastOfLot().due(1, "tank", 2, 100, 1, 0).due(0, "cell", 0, 7, 3).due(100, "cell", 0, -1, -1);

        sentence("HOURS begin anew from 0, and what told() counts of them.");
        running().set("want", 1).set("hours", 2).due(10, "told", 3).due(200, "told", 4).due(1000, "told", 5)
                .set("tank", 3, 1000, 50, 0).due(0, "told", 3).due(0, "told", 4).due(0, "told", 5)
                .refused("glass", 0, 0).refused("lead", 0, 0)
                .due(1, "hours", 1).due(1, "told", 3).due(50, "told", 4).due(50, "told", 5)
                .due(50, "glass", 0, 6).refused("glass", 1, 6);
    }

    /** Two cells full of the last thing of the last feed that there may be. */
    private Run lastOfLot() {
        Run x = empty();
        for (int f = 0; f < 7; f++) {
            x.set("feed", SAND, 1000, 0, 0, 0, 0, 0);
        }
        return x.set("feed", SAND, 0, 0, 0, 1000, 0, 0).set("tank", 2, 100, 1, 7);
    }

    private void tankRefused() {
        sentence("NO: n is not 2..6,");
        term("THE TANK has N CELLS (2 to 6; 3 at first) in a row from 0 on,");
        running().refused("tank", 1, 200, 20, 1).refused("tank", 7, 200, 20, 1).refused("tank", 0, 200, 20, 1)
                .refused("tank", LOW, 200, 20, 1).refused("tank", HIGH, 200, 20, 1)
                .due(1, "tank", 2, 200, 20, 1).due(2, "told", 1).due(200, "cell", 1, 1, -1)
                .due(1, "tank", 6, 200, 20, 1).due(6, "told", 1).due(200, "cell", 5, 1, -1);
        empty().due(3, "told", 1);

        sentence("w not 100..100000,");
        term("each with W grams (100 to 100000; 1000 at first) of glass,");
        running().refused("tank", 2, 99, 20, 1).refused("tank", 2, 100001, 20, 1).refused("tank", 2, 0, 0, 1)
                .refused("tank", 2, LOW, 1, 1).refused("tank", 2, HIGH, 20, 1)
                .due(1, "tank", 2, 100, 20, 1).due(100, "cell", 0, -1, -1)
                .due(1, "tank", 2, 100000, 20, 1).due(100000, "cell", 0, -1, -1);
        empty().refused("pull", 1001).due(100, "pull", 1000);

        sentence("p not 1..w,");
        term("and a PULL of p grams an hour (1 to W; 100 at first).");
        running().refused("tank", 2, 200, 0, 1).refused("tank", 2, 200, 201, 1).refused("tank", 2, 200, -1, 1)
                .refused("tank", 2, 200, LOW, 1).refused("tank", 2, 200, HIGH, 1)
                .refused("tank", 2, 100000, 100001, 1)
                .due(1, "tank", 2, 200, 1, 1).due(1, "tank", 2, 200, 200, 1).due(200, "pull", 1)
                .due(1, "tank", 2, 100000, 100000, 1).due(100000, "pull", 1);
        empty().due(100, "pull", 1);

        sentence("or no such FEED.");
        empty().refused("tank", 2, 200, 20, 0);
        running().refused("tank", 2, 200, 20, -1).refused("tank", 2, 200, 20, 3).refused("tank", 2, 200, 20, 8)
                .refused("tank", 2, 200, 20, LOW).refused("tank", 2, 200, 20, HIGH)
                .due(1, "tank", 2, 200, 20, 2).due(1, "tank", 2, 200, 20, 0);
        eightFeeds().refused("tank", 2, 200, 20, 8).due(1, "tank", 2, 200, 20, 7);
    }

    private void pull() {
        promise(6);
        sentence("PULL becomes p: what it was.");
        twoCells().due(50, "pull", 1).due(1, "hours", 1).due(1, "pull", 100).due(1, "hours", 1)
                .due(100, "pull", 7).due(1, "glass", 0, 6).due(100, "glass", 1, 6);
        empty().due(100, "pull", 1).due(1, "pull", 1);

        sentence("NO: p is not 1..W.");
        empty().refused("pull", 0).refused("pull", 1001).due(100, "pull", 1000);
        running().refused("pull", 0).refused("pull", 1001).due(100, "pull", 1000);
        twoCells().refused("pull", 0).refused("pull", 101).refused("pull", -1).refused("pull", LOW)
                .refused("pull", HIGH).due(50, "pull", 100).due(100, "pull", 1)
                // W is that of the tank now
                .set("tank", 2, 100000, 1, 0).refused("pull", 100001).due(1, "pull", 100000)
                .set("tank", 2, 100, 1, 0).refused("pull", 101).refused("pull", 100000);
    }

    private void cell() {
        promise(7);
        sentence("Grams of a FEED (-1: of all) and a THING (-1: of all) in a CELL.");
        term("Grams of glass are known by FEED and THING: a LOT is a number of grams for each FEED and each THING.");
        // half of cell 0 is the second feed's after an hour
        Run x = empty().set("feed", SAND, 600, 400, 0, 0, 0, 0).set("feed", SAND, 0, 100, 600, 300, 0, 0)
                .set("stock", 1, 50).set("share", 1, 1000).set("mix").set("tank", 2, 100, 50, 0).set("hours", 1);
        x.dues(row(30, 20, 0, 0), "cell", 0, 0).dues(row(0, 5, 30, 15), "cell", 0, 1)
                .dues(row(30, 25, 30, 15), "cell", 0, -1)
                .due(50, "cell", 0, 0, -1).due(50, "cell", 0, 1, -1).due(100, "cell", 0, -1, -1)
                .dues(row(60, 40, 0, 0), "cell", 1, 0).dues(row(0, 0, 0, 0), "cell", 1, 1)
                .due(100, "cell", 1, -1, -1);
        lastOfLot().due(100, "cell", 1, 7, 3).due(100, "cell", 1, -1, 3).due(100, "cell", 1, 7, -1)
                .due(100, "cell", 1, -1, -1).due(0, "cell", 1, 7, 2).due(0, "cell", 1, 6, -1);
        // a feed that is new has nothing in it
        twoCells().set("feed", SAND, 1000, 0, 0, 0, 0, 0).due(0, "cell", 0, 2, -1).due(0, "cell", 1, 2, 0);

        sentence("NO: no such CELL, FEED or THING;");
        term("THINGS are 0 to 3 (sand, lime, iron, chrome, say).");
        x.refused("cell", -1, -1, -1).refused("cell", 2, -1, -1).refused("cell", LOW, -1, -1)
                .refused("cell", HIGH, -1, -1)
                .refused("cell", 0, -2, -1).refused("cell", 0, 2, -1).refused("cell", 0, LOW, -1)
                .refused("cell", 0, HIGH, -1)
                .refused("cell", 0, -1, -2).refused("cell", 0, -1, 4).refused("cell", 0, 1, LOW)
                .refused("cell", 0, 1, HIGH);
        x.set("tank", 6, 100, 50, 0).refused("cell", 6, -1, -1).due(100, "cell", 5, -1, -1);
        running().refused("cell", 3, 0, 0).refused("cell", 0, 3, 0).refused("cell", 0, 0, 4);
        eightFeeds().set("tank", 2, 100, 50, 7).refused("cell", 0, 8, 0).due(100, "cell", 0, 7, 0);

        sentence("THE TANK was not made.");
        prepared().refused("cell", 0, -1, -1).refused("cell", 2, 0, 0).refused("cell", 0, 2, 3);
        // a refused tank is none
        prepared().refused("tank", 7, 1000, 100, 0).refused("cell", 0, -1, -1);
    }
}
