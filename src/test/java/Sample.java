/** Tanks that tests begin with. */
final class Sample {
    private Sample() {
    }

    /** The feeds, colours and mix of the first run under shared/tests, with two more colours; no tank yet. */
    static GlassTank prepared() {
        GlassTank x = new GlassTank();
        x.feed(0, 700, 300, 0, 0, 0, 20);
        x.feed(2, 500, 0, 500, 0, 0, 400);
        x.feed(3, 690, 290, 15, 5, 10, 0);
        x.stock(0, 5000);
        x.stock(1, 900);
        x.colour();
        x.span(0, 2, 0, 10);
        x.colour();
        x.span(1, 2, 40, 60);
        x.colour();
        x.span(2, 3, 900, 1000);
        x.share(0, 900);
        x.share(1, 100);
        x.mix();
        return x;
    }

    static GlassTank running() {
        GlassTank x = prepared();
        x.tank(3, 1000, 100, 0);
        x.want(0);
        x.change(0, 1, 5);
        x.change(1, 0, 9);
        x.ring(3);
        x.hours(8);
        return x;
    }
}
