/** Runs that tests begin with. */
final class Sample {
    static final int SAND = 0;
    static final int BROKEN = 1;
    static final int TINT = 2;
    static final int OWN = 3;

    private Sample() {
    }

    /** The feeds, colours and mix of the first run under shared/tests, with one more colour; no tank yet. */
    static Run prepared(Checks checks) {
        return new Run(checks)
                .set("feed", SAND, 700, 300, 0, 0, 0, 20)
                .set("feed", TINT, 500, 0, 500, 0, 0, 400)
                .set("feed", OWN, 690, 290, 15, 5, 10, 0)
                .set("stock", 0, 5000)
                .set("stock", 1, 900)
                .set("colour")
                .set("span", 0, 2, 0, 10)
                .set("colour")
                .set("span", 1, 2, 40, 60)
                .set("colour")
                .set("span", 2, 3, 900, 1000)
                .set("share", 0, 900)
                .set("share", 1, 100)
                .set("mix");
    }

    /** Eight hours later, with some of all that can be set. */
    static Run running(Checks checks) {
        return prepared(checks)
                .set("tank", 3, 1000, 100, 0)
                .set("want", 0)
                .set("change", 0, 1, 5)
                .set("change", 1, 0, 9)
                .set("ring", 3)
                .set("hours", 8);
    }

    /** Sand of thing 0 and broken glass of thing 1, both without doubt; no stock, no mix, no tank. */
    static Run twoFeeds(Checks checks) {
        return new Run(checks)
                .set("feed", SAND, 1000, 0, 0, 0, 0, 1)
                .set("feed", BROKEN, 0, 1000, 0, 0, 0, 1);
    }

    /** Much of both, a mix of broken glass alone, two cells of 100 grams full of sand, and a pull of 50. */
    static Run twoCells(Checks checks) {
        return twoFeeds(checks)
                .set("stock", 0, 1000000)
                .set("stock", 1, 1000000)
                .set("share", 1, 1000)
                .set("mix")
                .set("tank", 2, 100, 50, 0);
    }

    /** As many feeds as there may be, sand of thing 0 each. */
    static Run eightFeeds(Checks checks) {
        Run x = new Run(checks);
        for (int f = 0; f < 8; f++) {
            x.set("feed", SAND, 1000, 0, 0, 0, 0, 0);
        }
        return x;
    }

    /** As many feeds and colours as there may be, all in the mix or with a change, and an hour that went by. */
    static Run full(Checks checks) {
        Run x = withColours(new Run(checks), 6);
        for (int f = 0; f < 8; f++) {
            x.set("feed", f % 4, 1000 - f, f, 0, 0, 0, f).set("stock", f, 1000).set("share", f, 125);
        }
        for (int c = 0; c < 6; c++) {
            x.set("span", c, 0, 990 + c, 1000).set("change", c, (c + 1) % 6, 1 + c);
        }
        return x.set("mix").set("tank", 2, 1000, 100, 7).set("want", 5).set("ring", 63).set("hours", 1);
    }

    static Run withColours(Run x, int count) {
        for (int c = 0; c < count; c++) {
            x.set("colour");
        }
        return x;
    }
}
