/** Promises 8 to 13, and the Terms about sure and cheapest mixes. */
final class MixEdges extends Edges {
    MixEdges(Doc doc, Checks checks) {
        super(doc, checks);
    }

    @Override
    void all() {
        share();
        mix();
        colour();
        span();
        sure();
        sureSums();
        cheapest();
        cheapestOfAll();
    }

    private void share() {
        promise(8);
        sentence("The share of a FEED for THE MIX to come: what it was.");
        twoFeeds().due(0, "share", 0, 1000).due(1000, "share", 0, 0).due(0, "share", 0, 1).due(0, "share", 1, 999)
                .due(1, "share", 0, 1).due(999, "share", 1, 999);

        sentence("(THE MIX stays till mix().)");
        twoCells().set("share", 0, 1000).set("share", 1, 0).due(0, "of", 0, 8).due(1000, "of", 1, 8)
                .set("hours", 1).due(1000000, "of", 0, 7).due(999950, "of", 1, 7)
                .set("mix").due(1000, "of", 0, 8).due(0, "of", 1, 8)
                .set("hours", 1).due(999950, "of", 0, 7).due(999950, "of", 1, 7);

        sentence("NO: no such FEED,");
        empty().refused("share", 0, 0);
        running().refused("share", -1, 5).refused("share", 3, 5).refused("share", LOW, 5).refused("share", HIGH, 5)
                .due(0, "share", 2, 5).due(900, "share", 0, 5);
        eightFeeds().refused("share", 8, 5).due(0, "share", 7, 5);

        sentence("or s is not 0..1000.");
        running().set("share", 0, 7).refused("share", 0, -1).refused("share", 0, 1001).refused("share", 0, LOW)
                .refused("share", 0, HIGH).due(7, "share", 0, 0).due(0, "share", 0, 1000);
    }

    private void mix() {
        promise(9);
        sentence("THE MIX becomes the shares that were told: 1.");
        term("THE MIX gives each FEED a share, thousandths, 1000 together, or there is none (at first).");
        Run x = withColours(eightFeeds(), 1).refused("sure", 0);
        for (int f = 0; f < 8; f++) {
            x.due(0, "share", f, 125);
        }
        x.refused("sure", 0).due(1, "mix").due(1, "sure", 0).due(1, "mix");
        for (int f = 0; f < 8; f++) {
            x.due(125, "of", f, 8).due(125, "share", f, 125);
        }

        sentence("NO: they are not 1000 together.");
        empty().refused("mix");
        running().set("share", 0, 899).refused("mix").set("share", 0, 901).refused("mix").set("share", 0, 900)
                .due(1, "mix");
        twoFeeds().refused("mix").set("share", 0, 999).refused("mix").set("share", 1, 2).refused("mix")
                .set("share", 1, 1).due(1, "mix").set("share", 0, 1000).refused("mix")
                .due(999, "of", 0, 8).due(1, "of", 1, 8);
        x = eightFeeds();
        for (int f = 0; f < 8; f++) {
            x.set("share", f, 1000);
        }
        x.refused("mix");
    }

    private void colour() {
        promise(10);
        sentence("A new COLOUR, all spans from 0 to 1000: its number.");
        // each thing by itself: 1000 thousandths of it, 0 of the others
        Run x = empty().set("feed", SAND, 1000, 0, 0, 0, 0, 0).set("feed", SAND, 0, 1000, 0, 0, 0, 0)
                .set("feed", SAND, 0, 0, 1000, 0, 0, 0).set("feed", SAND, 0, 0, 0, 1000, 0, 0)
                .due(0, "colour").set("span", 0, 0, 1, 999).due(1, "colour");
        for (int f = 0; f < 4; f++) {
            for (int g = 0; g < 4; g++) {
                x.set("share", g, f == g ? 1000 : 0);
            }
            x.set("mix").set("tank", 2, 100, 100, f).due(1, "when", 1).due(1, "sure", 1).due(0, "when", 0);
        }

        sentence("NO: there are 6.");
        term("COLOURS are numbered from 0, 6 at most: for each THING a LEAST and a MOST, thousandths.");
        x = twoCells();
        for (int c = 0; c < 6; c++) {
            x.due(c, "colour").set("span", c, 0, 100 * c, 1000);
        }
        x.refused("colour").refused("colour").due(6, "told", 2);
    }

    /** Glass of things 0 and 1 by halves; two colours for it, the first with a span from 400 to 600 for thing 0. */
    private Run halves() {
        return withColours(empty(), 2).set("span", 0, 0, 400, 600).set("feed", SAND, 500, 500, 0, 0, 0, 0)
                .set("share", 0, 1000).set("mix").set("tank", 2, 100, 100, 0);
    }

    private void span() {
        promise(11);
        sentence("The span of a THING for a COLOUR: 1.");
        halves().due(1, "span", 0, 0, 501, 600).due(0, "when", 0).due(1, "when", 1)
                .due(1, "span", 0, 0, 400, 499).due(0, "when", 0)
                .due(1, "span", 0, 0, 500, 500).due(1, "when", 0)
                .due(1, "span", 0, 1, 501, 501).due(0, "when", 0).due(1, "span", 0, 1, 0, 1000)
                .due(1, "span", 0, 2, 1, 1).due(0, "when", 0).due(1, "span", 0, 2, 0, 0)
                .due(1, "span", 0, 3, 1, 1000).due(0, "when", 0).due(1, "span", 0, 3, 0, 1).due(1, "when", 0)
                .due(1, "when", 1).due(1, "span", 1, 3, 1, 1000).due(0, "when", 1).due(1, "when", 0);

        sentence("NO: no such COLOUR, THING;");
        term("THINGS are 0 to 3 (sand, lime, iron, chrome, say).");
        empty().refused("span", 0, 0, 0, 1000);
        halves().refused("span", -1, 0, 501, 1000).refused("span", 2, 0, 501, 1000)
                .refused("span", LOW, 0, 501, 1000).refused("span", HIGH, 0, 501, 1000)
                .refused("span", 0, -1, 501, 1000).refused("span", 0, 4, 501, 1000)
                .refused("span", 1, -1, 501, 1000).refused("span", 1, 4, 501, 1000)
                .refused("span", 0, LOW, 501, 1000).refused("span", 0, HIGH, 501, 1000)
                .due(1, "span", 0, 0, 0, 1000).due(1, "span", 1, 3, 0, 1000);
        withColours(empty(), 6).refused("span", 6, 0, 501, 1000).due(1, "span", 5, 0, 501, 1000);
        running().refused("span", 3, 0, 0, 0).refused("span", 0, 4, 0, 0);

        sentence("least or most is not 0..1000,");
        // a half that was taken would show: glass of 500 would no longer be of the colour
        halves().refused("span", 0, 0, -1, 499).refused("span", 0, 0, 501, 1001).refused("span", 0, 0, -1, -1)
                .refused("span", 0, 0, 1001, 1001).refused("span", 0, 0, LOW, 499).refused("span", 0, 0, 501, HIGH)
                .due(1, "span", 0, 3, 0, 0).due(1, "when", 0).due(1, "span", 0, 3, 1000, 1000).due(0, "when", 0)
                .due(1, "span", 0, 3, 0, 1000).due(1, "when", 0);
        running().refused("span", 0, 0, -1, 0).refused("span", 0, 0, 0, 1001);

        sentence("or least above most.");
        halves().refused("span", 0, 0, 501, 500).refused("span", 0, 0, 1000, 0).refused("span", 0, 1, 1000, 999)
                .refused("span", 0, 2, 1, 0).due(1, "span", 0, 0, 500, 500).due(1, "span", 0, 0, 499, 500);
    }

    private void sure() {
        promise(12);
        sentence("Whether THE MIX is SURE for a COLOUR: 1, 0.");
        // the mix, not the shares told
        withColours(twoFeeds(), 2).set("span", 1, 0, 500, 500).set("share", 0, 500).set("share", 1, 500).set("mix")
                .set("share", 0, 0).due(1, "sure", 1).due(1, "sure", 0)
                .set("span", 1, 0, 501, 1000).due(0, "sure", 1).due(1, "sure", 0);

        sentence("NO: no such COLOUR;");
        twoCells().refused("sure", 0).set("colour").refused("sure", -1).refused("sure", 1).refused("sure", LOW)
                .refused("sure", HIGH).due(1, "sure", 0);
        withColours(twoCells(), 6).refused("sure", 6).due(1, "sure", 5);
        running().refused("sure", 3).due(1, "sure", 1);

        sentence("there is no MIX.");
        withColours(twoFeeds(), 1).refused("sure", 0).set("share", 0, 1000).refused("sure", 0)
                .set("mix").due(1, "sure", 0);
    }

    private void spanIsSure(Run x, int t, int least, int most, int sure) {
        x.set("span", 0, t, least, most).due(sure, "sure", 0).set("span", 0, t, 0, 1000);
    }

    private void sureSums() {
        terms();
        sentence("A MIX is SURE for a COLOUR if for each THING the sum, over all FEEDS,");
        Run x = empty();
        for (int f = 0; f < 8; f++) {
            x.set("feed", SAND, f % 4 == 0 ? 1000 : 0, f % 4 == 1 ? 1000 : 0, f % 4 == 2 ? 1000 : 0,
                    f % 4 == 3 ? 1000 : 0, 0, 0).set("share", f, 125);
        }
        withColours(x, 1).set("mix");
        for (int t = 0; t < 4; t++) {
            spanIsSure(x, t, 250, 250, 1);
            spanIsSure(x, t, 251, 1000, 0);
            spanIsSure(x, t, 0, 249, 0);
        }

        sentence("by so many thousandths a THING may be more or less than told;");
        x = withColours(empty(), 1).set("feed", BROKEN, 500, 300, 200, 0, 100, 0).set("share", 0, 1000).set("mix");
        spanIsSure(x, 0, 400, 600, 1);
        spanIsSure(x, 0, 401, 600, 0);
        spanIsSure(x, 0, 400, 599, 0);
        spanIsSure(x, 3, 0, 100, 1);
        spanIsSure(x, 3, 0, 99, 0);

        // half of it 1000 and 0 for sure, half of it 30 and 970, give or take 50
        x = withColours(empty(), 1).set("feed", SAND, 1000, 0, 0, 0, 0, 0).set("feed", OWN, 30, 970, 0, 0, 50, 0)
                .set("share", 0, 500).set("share", 1, 500).set("mix");
        sentence("of share times (thousandths less DOUBT, 0 at least)");
        spanIsSure(x, 0, 500, 1000, 1);
        spanIsSure(x, 0, 501, 1000, 0);
        spanIsSure(x, 1, 460, 1000, 1);
        spanIsSure(x, 1, 461, 1000, 0);
        sentence("and that of share times (thousandths and DOUBT, 1000 at most)");
        spanIsSure(x, 1, 0, 500, 1);
        spanIsSure(x, 1, 0, 499, 0);
        spanIsSure(x, 0, 0, 540, 1);
        spanIsSure(x, 0, 0, 539, 0);
        x = withColours(empty(), 1).set("feed", BROKEN, 999, 1, 0, 0, 1, 0).set("share", 0, 1000).set("mix");
        spanIsSure(x, 0, 998, 1000, 1);
        spanIsSure(x, 0, 0, 999, 0);

        // a millionth of thing 1
        x = withColours(empty(), 1).set("feed", SAND, 1000, 0, 0, 0, 0, 0).set("feed", SAND, 999, 1, 0, 0, 0, 0)
                .set("share", 0, 999).set("share", 1, 1).set("mix");
        sentence("is LEAST times 1000 at least,");
        spanIsSure(x, 0, 999, 1000, 1);
        spanIsSure(x, 0, 1000, 1000, 0);
        sentence("MOST times 1000 at most.");
        spanIsSure(x, 1, 0, 1, 1);
        spanIsSure(x, 1, 0, 0, 0);
        spanIsSure(x, 0, 0, 999, 0);
    }

    private void cheapest() {
        promise(13);
        sentence("THE CHEAPEST MIX for a COLOUR is THE MIX from now on (and the shares told are its):"
                + " the sum of share times PRICE.");
        Run x = withColours(empty(), 1).set("feed", SAND, 1000, 0, 0, 0, 0, 50).set("feed", SAND, 0, 1000, 0, 0, 0, 7)
                .set("span", 0, 0, 250, 1000).set("stock", 0, 100).set("stock", 1, 100);
        x.due(300 * 50 + 700 * 7, "cheapest", 0).due(300, "of", 0, 8).due(700, "of", 1, 8).due(1, "sure", 0)
                .due(300, "share", 0, 300).due(700, "share", 1, 700).due(1, "mix")
                .set("tank", 2, 100, 10, 0).set("hours", 1).due(97, "of", 0, 7).due(93, "of", 1, 7);

        sentence("NO: no such COLOUR,");
        twoCells().refused("cheapest", 0).set("colour").refused("cheapest", -1).refused("cheapest", 1)
                .refused("cheapest", LOW).refused("cheapest", HIGH).due(1000, "cheapest", 0);
        withColours(twoCells(), 6).refused("cheapest", 6).due(1000, "cheapest", 5);
        running().refused("cheapest", 3).refused("cheapest", -1);

        sentence("or there is none.");
        // no feeds, then no mix that is sure; the mix and the shares told differ, and both stay
        withColours(empty(), 1).refused("cheapest", 0);
        running().set("share", 0, 5).refused("cheapest", 2);
        withColours(twoCells(), 1).set("share", 0, 5).set("span", 0, 2, 1, 1000).refused("cheapest", 0)
                .set("span", 0, 2, 0, 1000).due(1000, "cheapest", 0);
        // 450 and 550 would be sure
        withColours(twoCells(), 1).set("span", 0, 0, 401, 499).refused("cheapest", 0)
                .set("share", 0, 450).set("share", 1, 550).set("mix").due(1, "sure", 0).refused("cheapest", 0);
    }

    private void cheapestOfAll() {
        terms();
        sentence("THE CHEAPEST MIX for a COLOUR: of all that are SURE for it");
        // the cheap one is doubtful: up to 500 of it the doubt is 50 at most
        Run x = withColours(empty(), 1).set("feed", SAND, 500, 500, 0, 0, 0, 10)
                .set("feed", BROKEN, 500, 500, 0, 0, 100, 1).due(1000, "cheapest", 0);
        x.set("span", 0, 0, 450, 550).due(5500, "cheapest", 0).due(500, "of", 1, 8);
        sentence("and give shares that are multiples of 100");
        x.set("span", 0, 0, 451, 550).due(6400, "cheapest", 0).due(400, "of", 1, 8)
                .set("span", 0, 0, 450, 549).due(6400, "cheapest", 0).due(400, "of", 1, 8)
                .set("span", 0, 0, 490, 510).due(9100, "cheapest", 0).due(100, "of", 1, 8)
                .set("span", 0, 0, 491, 510).due(10000, "cheapest", 0).due(0, "of", 1, 8);

        sentence("the one with the least sum of share times PRICE;");
        withColours(empty(), 1).set("feed", SAND, 1000, 0, 0, 0, 0, 10000).due(10000000, "cheapest", 0)
                .set("feed", TINT, 1000, 0, 0, 0, 0, 9999).due(9999000, "cheapest", 0).due(1000, "of", 1, 8)
                .set("feed", SAND, 1000, 0, 0, 0, 0, 0).due(0, "cheapest", 0).due(1000, "of", 2, 8).due(0, "of", 1, 8);

        sentence("of several the one that gives more to the first FEED at which two differ.");
        withColours(eightFeeds(), 1).due(0, "cheapest", 0).due(1000, "of", 0, 8);
        withColours(twoFeeds(), 1).set("span", 0, 0, 400, 600).due(1000, "cheapest", 0).due(600, "of", 0, 8)
                .due(400, "of", 1, 8)
                // the first is bound to 600, so the second and a third like it differ
                .set("feed", SAND, 0, 1000, 0, 0, 0, 1).set("span", 0, 0, 600, 600).due(1000, "cheapest", 0)
                .due(600, "of", 0, 8).due(400, "of", 1, 8).due(0, "of", 2, 8);
        // a step of feed f brings 10 f thousandths of thing 0, 110 in all: 4 and 7 leave most to feed 0, then to feed 1
        x = withColours(empty(), 1);
        for (int f = 0; f < 8; f++) {
            x.set("feed", SAND, 100 * f, 1000 - 100 * f, 0, 0, 0, 10000 - f);
        }
        x.due(9993000, "cheapest", 0).due(1000, "of", 7, 8).set("span", 0, 1, 890, 1000).due(9998900, "cheapest", 0)
                .due(800, "of", 0, 8).due(100, "of", 4, 8).due(100, "of", 7, 8).due(100, "share", 7, 0);
    }
}
