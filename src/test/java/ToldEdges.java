/** Promises 18 to 20, and the Terms about told hours and doses. */
final class ToldEdges extends Edges {
    ToldEdges(Doc doc, Checks checks) {
        super(doc, checks);
    }

    @Override
    void all() {
        toldHours();
        when();
        between();
        doses();
        dose();
        doseOfSeveral();
        doseRefused();
    }

    /** A tank that changes so slowly that each hour's glass differs from that of the hour before, for 101 hours. */
    private Run slow() {
        return withColours(twoCells().set("feed", TINT, 1000, 0, 0, 0, 0, 0).set("tank", 2, 100000, 1000, 0), 1);
    }

    /** Thousandths of thing 1 in the glass of a slow tank's hour, from 1 on. */
    private int slowGlass(int hour) {
        Run x = slow();
        for (int left = hour; left > 0; left -= 50) {
            x.set("hours", Math.min(left, 50));
        }
        int thousandths = x.ask("glass", hour - 1, 1);
        checks.holds("each hour's glass has more of thing 1", thousandths > x.ask("glass", hour - 2, 1));
        return thousandths;
    }

    /** All that can be set is set, but no tank was made. */
    private Run unmade() {
        return prepared().set("want", 0).set("change", 0, 1, 5).set("ring", 3);
    }

    private void toldHours() {
        terms();
        sentence("TOLD HOURS are as hours would go by from now on, with THE MIX, whatever STOCKS are there,"
                + " and nothing changed.");
        // hour 37 from the beginning, of which 8 have gone by
        running().keeps(29, "when", 1).keeps(18, "between");
        dosing(2, 100, 100).keeps(100000, "dose", 0, 1).set("span", 0, 3, 500, 500).keeps(350001, "dose", 0, 1);
        // the stocks are empty: told hours go by all the same
        withColours(twoFeeds(), 1).set("share", 1, 1000).set("mix").set("tank", 2, 100, 50, 0)
                .set("span", 0, 1, 1, 1000).keeps(0, "hours", 1).due(3, "when", 0).due(2, "between");
        // with the mix, not with the shares told
        withColours(twoCells(), 1).set("span", 0, 1, 1, 1000).set("share", 1, 0).set("share", 0, 1000)
                .due(3, "when", 0).set("mix").due(0, "when", 0);
        // with the pull as it is now: by halves the last sand of cell 1 (50, 31, 18, 11, 6, 3, 1) goes in hour 10
        withColours(twoCells(), 1).set("span", 0, 1, 1000, 1000).due(11, "when", 0).set("pull", 100).due(3, "when", 0)
                .due(2, "between");
        // the last number of a lot: the last thing of the last feed
        Run x = withColours(empty(), 1);
        for (int f = 0; f < 8; f++) {
            x.set("feed", TINT, f < 7 ? 1000 : 0, 0, 0, f < 7 ? 0 : 1000, 0, 0);
        }
        x.set("share", 7, 1000).set("mix").set("tank", 2, 100, 100, 7).set("span", 0, 3, 1000, 1000).due(1, "when", 0)
                .due(0, "between").due(100000, "dose", 0, 7);
        // as many hours as there may be have gone by: hours to come are told all the same
        x = withColours(twoCells(), 1);
        for (int i = 0; i < 8; i++) {
            x.set("hours", 50);
        }
        x.refused("hours", 1).due(1, "when", 0).due(0, "between");
    }

    private void when() {
        promise(18);
        sentence("The first TOLD HOUR, from 1 on, whose GLASS is of a COLOUR;");
        // glass of hours 3 and 4 has 240 and 500 thousandths of thing 1; its name is colour 0 in every hour
        withColours(twoCells(), 2).keeps(1, "when", 1).set("span", 1, 1, 1, 1000).due(3, "when", 1)
                .set("span", 1, 1, 240, 1000).due(3, "when", 1).set("span", 1, 1, 241, 1000).due(4, "when", 1)
                .set("hours", 1).due(3, "when", 1).set("hours", 2).due(1, "when", 1).due(1, "when", 0);

        sentence("0 when none up to 100 is.");
        slow().set("span", 0, 1, slowGlass(99), 1000).due(99, "when", 0);
        slow().set("span", 0, 1, slowGlass(100), 1000).due(100, "when", 0);
        slow().set("span", 0, 1, slowGlass(101), 1000).keeps(0, "when", 0).set("hours", 1).due(100, "when", 0);

        sentence("NO: no such COLOUR;");
        twoCells().refused("when", 0).set("colour").refused("when", -1).refused("when", 1).refused("when", LOW)
                .refused("when", HIGH).due(1, "when", 0);
        withColours(twoCells(), 6).refused("when", 6).due(1, "when", 5);
        running().refused("when", 3).refused("when", -1);

        sentence("THE TANK was not made,");
        unmade().refused("when", 0).set("tank", 3, 1000, 100, 0).due(1, "when", 0);

        sentence("or there is no MIX.");
        withColours(twoFeeds(), 1).set("tank", 2, 100, 10, 0).set("share", 0, 1000).refused("when", 0)
                .set("mix").due(1, "when", 0);
    }

    private void between() {
        promise(19);
        sentence("How many TOLD HOURS up to 100 have GLASS without a NAME.");
        Run x = twoCells().keeps(100, "between");
        withColours(x, 1).keeps(0, "between");
        // hours 1 and 2 have no thing 1, hour 3 has 240 thousandths, hour 4 has 500
        x.set("span", 0, 1, 1, 1000).due(2, "between").set("span", 0, 1, 241, 1000).due(3, "between");
        withColours(x, 1).set("span", 1, 1, 0, 0).keeps(1, "between");
        slow().set("span", 0, 1, slowGlass(99), 1000).due(98, "between");
        slow().set("span", 0, 1, slowGlass(100), 1000).due(99, "between");
        slow().set("span", 0, 1, slowGlass(101), 1000).due(100, "between");
        slow().set("span", 0, 1, 0, slowGlass(100)).due(0, "between");
        slow().set("span", 0, 1, 0, slowGlass(99)).due(1, "between");

        sentence("NO: THE TANK was not made,");
        unmade().refused("between").set("tank", 3, 1000, 100, 0).due(18, "between");

        sentence("or there is no MIX.");
        twoFeeds().set("tank", 2, 100, 10, 0).set("share", 0, 1000).refused("between").set("mix").due(100, "between");
    }

    /** Sand and a tint of thing 3; the tank is full of sand and the mix is sand, so that only a dose brings thing 3. */
    private Run dosing(int n, int w, int p) {
        return withColours(empty(), 1).set("feed", SAND, 1000, 0, 0, 0, 0, 0).set("feed", TINT, 0, 0, 0, 1000, 0, 0)
                .set("share", 0, 1000).set("mix").set("tank", n, w, p, 0);
    }

    private void doseDue(Run x, int least, int most, int dose) {
        x.set("span", 0, 3, least, most).due(dose, "dose", 0, 1);
    }

    private void doses() {
        terms();
        // all of a cell goes on each hour: glass of hour 3 is what comes in in hour 1
        sentence("A DOSE of s (0 to 500 thousandths) of a TINT for k hours:");
        Run x = dosing(2, 100, 100);
        doseDue(x, 0, 0, 100000);
        doseDue(x, 500, 1000, 350001);
        doseDue(x, 501, 1000, 0);
        // one hour of it brings 6 of 50 grams in hour 3 and does not go on: 12 take two hours of it
        doseDue(dosing(2, 100, 50), 240, 1000, 450002);

        sentence("in these hours s of 1000 grams that come in are of it, the rest as THE MIX gives");
        for (int s = 100; s <= 500; s += 100) {
            doseDue(x, s, s, 300001 + 100 * s);
        }
        // half of the mix is tint already: of a dose of 500 there are 250 and 500
        x.set("share", 0, 500).set("share", 1, 500).set("mix");
        doseDue(x, 750, 750, 350001);
        doseDue(x, 700, 749, 340001);

        sentence("(grams SHARED by weights: share of THE MIX times (1000 - s) for each FEED, and s times 1000 more for"
                + " the TINT).");
        // 50.5 grams each: the lower number gets 51 of 101
        x = dosing(2, 101, 101);
        doseDue(x, 495, 1000, 350001);
        doseDue(x, 496, 1000, 0);
        withColours(empty(), 1).set("feed", TINT, 0, 0, 0, 1000, 0, 0).set("feed", SAND, 1000, 0, 0, 0, 0, 0)
                .set("share", 1, 1000).set("mix").set("tank", 2, 101, 101, 1)
                .set("span", 0, 3, 504, 1000).due(350001, "dose", 0, 0)
                .set("span", 0, 3, 505, 1000).due(0, "dose", 0, 0);
        // all at once: 17.8, 17.6, 15.1 and 50.5 of the tint, then 10.1, 20.2, 20.2 and 50.5
        sharedWithDose(101, row(352, 349, 299), row(18, 18, 15, 50));
        sharedWithDose(101, row(200, 400, 400), row(10, 20, 20, 51));
        leastShareWithDose();
    }

    /** A thousandth of the mix is feed 1: half of that, 50 of 100000 grams, is left of it with a dose of 500. */
    private void leastShareWithDose() {
        withColours(empty(), 1).set("feed", SAND, 1000, 0, 0, 0, 0, 0).set("feed", SAND, 0, 1000, 0, 0, 0, 0)
                .set("feed", TINT, 0, 0, 0, 1000, 0, 0).set("share", 0, 999).set("share", 1, 1).set("mix")
                .set("tank", 2, 100000, 100000, 0).set("span", 0, 3, 500, 500).set("span", 0, 1, 0, 1)
                .due(350001, "dose", 0, 2).set("span", 0, 1, 0, 0).due(0, "dose", 0, 2);
    }

    /** The glass of hour 3 with a dose of 500 of feed 3, the only one with thing 3; feed f has thing f. */
    private void sharedWithDose(int p, int[] shares, int[] grams) {
        Run x = withColours(empty(), 1).set("feed", SAND, 1000, 0, 0, 0, 0, 0).set("feed", SAND, 0, 1000, 0, 0, 0, 0)
                .set("feed", SAND, 0, 0, 1000, 0, 0, 0).set("feed", TINT, 0, 0, 0, 1000, 0, 0);
        for (int f = 0; f < 3; f++) {
            x.set("share", f, shares[f]);
        }
        x.set("mix").set("tank", 2, p, p, 0);
        for (int t = 0; t < 4; t++) {
            x.set("span", 0, t, grams[t] * 1000 / p, grams[t] * 1000 / p + 1);
        }
        x.due(350001, "dose", 0, 3);
    }

    private void dose() {
        promise(20);
        sentence("The least number of the first TOLD HOUR whose GLASS is of a COLOUR,");
        // the shared example: 37 without a dose
        prepared().set("tank", 3, 1000, 100, 0).due(37, "when", 1).keeps(1450008, "dose", 1, 1)
                .due(100000, "dose", 0, 1);
        // s 400 for an hour: 20 grams in, 10 to cell 1, 5 of 50 out in hour 3; s 300 brings 3 only
        dosing(2, 100, 50).set("span", 0, 3, 100, 1000).due(0, "when", 0).keeps(340001, "dose", 0, 1);
        // of a colour that is not its name
        withColours(dosing(2, 100, 50), 1).set("span", 1, 3, 100, 1000).due(340001, "dose", 1, 1);

        sentence("of all DOSES of a TINT with s a multiple of 100");
        Run x = dosing(2, 100, 100);
        doseDue(x, 1, 1000, 310001);
        doseDue(x, 101, 1000, 320001);
        doseDue(x, 150, 199, 0);
        doseDue(x, 401, 1000, 350001);

        sentence("and k 1 to 10 hours,");
        x = dosing(2, 1000, 100);
        doseDue(x, 190, 1000, 1750010);
        // 11 hours would bring it
        doseDue(x, 191, 1000, 0);

        sentence("or none:");
        // all glass is of the colour but that of a dose
        doseDue(dosing(2, 100, 50), 0, 0, 100000);
        // a dose would bring more sand, and the mix brings the colour in hour 4: 25 of 50 grams
        withColours(twoCells(), 1).set("feed", TINT, 1000, 0, 0, 0, 0, 0).set("span", 0, 1, 500, 1000)
                .due(4, "when", 0).due(400000, "dose", 0, 2);

        sentence("s and k as 100000 times that hour, 100 times s, and k;");
        x = dosing(2, 100, 50);
        doseDue(x, 490, 1000, 1050008);
        doseDue(x, 250, 1000, 540003);
        doseDue(dosing(6, 100, 100), 100, 1000, 710001);
    }

    private void doseOfSeveral() {
        sentence("of several with that hour the least s,");
        doseDue(dosing(2, 100, 100), 100, 1000, 310001);
        // hour 5 has 4 of 50 grams with s 300 for 2 hours and with s 400 for 1 hour; hour 4 has 3 at most
        doseDue(dosing(3, 100, 50), 70, 1000, 530002);

        sentence("then the least k");
        doseDue(dosing(2, 100, 100), 500, 1000, 350001);
        doseDue(dosing(2, 100, 50), 240, 1000, 450002);

        sentence("(none: s 0, k 0).");
        doseDue(dosing(2, 100, 100), 0, 1000, 100000);
        withColours(twoCells(), 1).set("feed", TINT, 0, 1000, 0, 0, 0, 0).set("span", 0, 1, 240, 1000)
                .due(3, "when", 0).due(300000, "dose", 0, 2);

        sentence("0 when there is no such hour up to 100.");
        doseDue(dosing(2, 100, 100), 501, 1000, 0);
        // a dose of what the tank is full of brings the colour later only
        slow().set("span", 0, 1, slowGlass(100), 1000).due(10000000, "dose", 0, 2);
        slow().set("span", 0, 1, slowGlass(101), 1000).keeps(0, "dose", 0, 2);
        // the strongest dose and no other brings 45 in hour 100, and in the greater tank 42 in hour 101
        doseDue(dosing(6, 20000, 1000), 45, 1000, 10050010);
        doseDue(dosing(6, 21000, 1000), 41, 1000, 9750010);
        doseDue(dosing(6, 21000, 1000), 42, 1000, 0);
    }

    private void doseRefused() {
        sentence("NO: no such COLOUR;");
        Run x = dosing(2, 100, 100).refused("dose", -1, 1).refused("dose", 1, 1).refused("dose", LOW, 1)
                .refused("dose", HIGH, 1).due(100000, "dose", 0, 1);
        withColours(x, 5).refused("dose", 6, 1).due(100000, "dose", 5, 1);
        running().refused("dose", 3, 1).refused("dose", -1, 1);

        sentence("f is no FEED of KIND TINT;");
        x = withColours(empty(), 1);
        for (int kind = 0; kind < 4; kind++) {
            x.set("feed", kind, 1000, 0, 0, 0, 0, 0);
        }
        x.set("share", 0, 1000).set("mix").set("tank", 2, 100, 100, 0)
                .refused("dose", 0, SAND).refused("dose", 0, BROKEN).refused("dose", 0, OWN)
                .refused("dose", 0, -1).refused("dose", 0, 4).refused("dose", 0, 8).refused("dose", 0, LOW)
                .refused("dose", 0, HIGH).due(100000, "dose", 0, TINT);

        sentence("THE TANK was not made,");
        unmade().refused("dose", 0, 1).set("tank", 3, 1000, 100, 0).due(100000, "dose", 0, 1);

        sentence("or there is no MIX.");
        withColours(empty(), 1).set("feed", TINT, 1000, 0, 0, 0, 0, 0).set("tank", 2, 100, 10, 0).set("share", 0, 1000)
                .refused("dose", 0, 0).set("mix").due(100000, "dose", 0, 0);
    }
}
