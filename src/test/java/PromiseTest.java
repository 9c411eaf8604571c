/** Each promise of the document by hand: ordinary inputs, the edges it names, and each "NO: ..". */
public final class PromiseTest {
    private static final int NO = -1000000000;
    private static final int SAND = 0;
    private static final int BROKEN = 1;
    private static final int TINT = 2;
    private static final int OWN = 3;
    private static final Checks checks = new Checks("PromiseTest");

    public static void main(String[] args) {
        promise1NewObject();
        promise2Feed();
        promise3Stock();
        promise4Of();
        promise5Tank();
        promise6Pull();
        promise7Cell();
        promise8Share();
        promise9Mix();
        promise10Colour();
        promise11Span();
        promise12Sure();
        promise13Cheapest();
        promise14Want();
        promise15Hours();
        promise15Stocks();
        promise15Waste();
        promise15AllAtOnce();
        promise16Glass();
        promise17Lead();
        promise18When();
        promise18UpTo100();
        promise19Between();
        promise20Dose();
        promise21Change();
        promise22Ring();
        promise23Next();
        promise24Told();
        checks.end();
    }

    private static int call(GlassTank x, String name, int... a) {
        return Calls.on(x, Calls.number(name), a);
    }

    private static void due(GlassTank x, int want, String name, int... a) {
        checks.due(Calls.text(Calls.number(name), a), call(x, name, a), want);
    }

    /** The answer is NO, and nothing has changed. */
    private static void refused(GlassTank x, String name, int... a) {
        String before = Snapshot.of(x);
        due(x, NO, name, a);
        checks.due("what is there after " + Calls.text(Calls.number(name), a), Snapshot.of(x), before);
    }

    /** Sand of thing 0, broken glass of thing 1, no doubt; two cells of 100 grams full of sand, a pull of 50. */
    private static GlassTank twoCells() {
        GlassTank x = new GlassTank();
        x.feed(SAND, 1000, 0, 0, 0, 0, 1);
        x.feed(BROKEN, 0, 1000, 0, 0, 0, 1);
        x.stock(0, 1000000);
        x.stock(1, 1000000);
        x.share(1, 1000);
        x.mix();
        x.tank(2, 100, 50, 0);
        return x;
    }

    private static void promise1NewObject() {
        GlassTank x = new GlassTank();
        int[] told = {0, 3, 0, 0, 0, 0, 0};
        for (int what = 0; what < told.length; what++) {
            due(x, told[what], "told", what);
        }
        refused(x, "pull", 1001);
        due(x, 100, "pull", 1000);
        due(x, 1000, "pull", 100);
        refused(x, "cell", 0, -1, -1);
        refused(x, "mix");
        refused(x, "hours", 1);
        refused(x, "between");
        refused(x, "ring", 1);
        due(x, -1, "want", -1);
        due(x, -1, "next", 0);
    }

    private static void promise2Feed() {
        GlassTank x = new GlassTank();
        due(x, 0, "feed", SAND, 1000, 0, 0, 0, 0, 0);
        due(x, 1, "feed", BROKEN, 250, 250, 250, 250, 100, 10000);
        due(x, 2, "feed", TINT, 0, 0, 0, 1000, 0, 7);
        due(x, 3, "feed", OWN, 0, 1, 2, 997, 100, 1);
        refused(x, "feed", -1, 1000, 0, 0, 0, 0, 0);
        refused(x, "feed", 4, 1000, 0, 0, 0, 0, 0);
        refused(x, "feed", SAND, -1, 1001, 0, 0, 0, 0);
        refused(x, "feed", SAND, 1001, -1, 0, 0, 0, 0);
        refused(x, "feed", SAND, 1001, 0, -1, 0, 0, 0);
        refused(x, "feed", SAND, 1001, 0, 0, -1, 0, 0);
        refused(x, "feed", SAND, 500, 499, 0, 0, 0, 0);
        refused(x, "feed", SAND, 500, 500, 1, 0, 0, 0);
        refused(x, "feed", SAND, 1 << 30, 1 << 30, 1 << 30, (1 << 30) + 1000, 0, 0);
        refused(x, "feed", BROKEN, 1000, 0, 0, 0, -1, 0);
        refused(x, "feed", BROKEN, 1000, 0, 0, 0, 101, 0);
        refused(x, "feed", OWN, 1000, 0, 0, 0, 101, 0);
        refused(x, "feed", SAND, 1000, 0, 0, 0, 1, 0);
        refused(x, "feed", TINT, 1000, 0, 0, 0, 1, 0);
        refused(x, "feed", SAND, 1000, 0, 0, 0, 0, -1);
        refused(x, "feed", SAND, 1000, 0, 0, 0, 0, 10001);
        for (int f = 4; f < 8; f++) {
            due(x, f, "feed", SAND, 1000, 0, 0, 0, 0, 0);
            due(x, 0, "of", f, 7);
        }
        refused(x, "feed", SAND, 1000, 0, 0, 0, 0, 0);
    }

    private static void promise3Stock() {
        GlassTank x = new GlassTank();
        x.feed(SAND, 1000, 0, 0, 0, 0, 0);
        x.feed(SAND, 1000, 0, 0, 0, 0, 0);
        due(x, 0, "stock", 0, 0);
        due(x, 7, "stock", 0, 7);
        due(x, 10, "stock", 0, 3);
        refused(x, "stock", 0, 9999991);
        due(x, 10000000, "stock", 0, 9999990);
        due(x, 10000000, "stock", 0, 0);
        refused(x, "stock", 0, 1);
        refused(x, "stock", 0, Integer.MAX_VALUE);
        refused(x, "stock", 1, -1);
        refused(x, "stock", -1, 1);
        refused(x, "stock", 2, 1);
        due(x, 0, "of", 1, 7);
    }

    private static void promise4Of() {
        GlassTank x = new GlassTank();
        x.feed(SAND, 1000, 0, 0, 0, 0, 0);
        x.feed(BROKEN, 100, 200, 300, 400, 55, 66);
        x.stock(1, 77);
        x.share(1, 1000);
        int[] before = {100, 200, 300, 400, BROKEN, 55, 66, 77, 0};
        for (int what = 0; what < before.length; what++) {
            due(x, before[what], "of", 1, what);
        }
        x.mix();
        due(x, 1000, "of", 1, 8);
        due(x, 0, "of", 0, 8);
        x.share(1, 5);
        due(x, 1000, "of", 1, 8);
        refused(x, "of", 1, 9);
        refused(x, "of", 1, -1);
        refused(x, "of", 2, 0);
        refused(x, "of", -1, 0);
    }

    private static void promise5Tank() {
        GlassTank x = Sample.running();
        refused(x, "tank", 1, 1000, 100, 0);
        refused(x, "tank", 7, 1000, 100, 0);
        refused(x, "tank", 3, 99, 10, 0);
        refused(x, "tank", 3, 100001, 10, 0);
        refused(x, "tank", 3, 1000, 0, 0);
        refused(x, "tank", 3, 1000, 1001, 0);
        refused(x, "tank", 3, 1000, 100, -1);
        refused(x, "tank", 3, 1000, 100, 3);
        int stock = x.of(2, 7);
        x.want(1);
        x.hours(2);
        due(x, 10, "told", 3);
        due(x, 200, "told", 4);
        due(x, 1000, "told", 5);
        due(x, 1, "tank", 6, 100000, 100000, 2);
        checks.due("a stock that fills", x.of(2, 7), stock + 200);
        due(x, 0, "told", 3);
        due(x, 0, "told", 4);
        due(x, 0, "told", 5);
        due(x, 600000, "told", 6);
        due(x, NO, "glass", 0, 0);
        due(x, NO, "lead", 0, 0);
        due(x, 0, "cell", 5, 0, -1);
        due(x, 69000, "cell", 5, 2, 0);
        due(x, 100000, "pull", 1);
        due(x, 1, "tank", 2, 100, 1, 0);
        due(x, 1, "pull", 100);
        due(x, 2, "told", 1);
        due(x, 1, "tank", 6, 100, 1, 0);
        due(x, 0, "cell", 5, 2, -1);
        due(x, 900, "of", 0, 8);
        due(x, 1, "want", 1);
        due(x, 0, "next", 0);
    }

    private static void promise6Pull() {
        GlassTank x = twoCells();
        due(x, 50, "pull", 1);
        due(x, 1, "pull", 100);
        refused(x, "pull", 101);
        refused(x, "pull", 0);
        refused(x, "pull", -5);
        x.hours(1);
        due(x, 100, "glass", 0, 6);
        due(x, 100, "pull", 7);
        x.hours(1);
        due(x, 7, "glass", 1, 6);
        due(x, 107, "told", 5);
    }

    private static void promise7Cell() {
        GlassTank x = new GlassTank();
        x.feed(SAND, 250, 250, 250, 250, 0, 0);
        x.feed(SAND, 100, 301, 302, 297, 0, 0);
        refused(x, "cell", 0, -1, -1);
        x.tank(4, 101, 100, 0);
        // of equal rests the lower number first
        int[] filled = {26, 25, 25, 25};
        for (int t = 0; t < 4; t++) {
            due(x, filled[t], "cell", 3, 0, t);
            due(x, filled[t], "cell", 3, -1, t);
            due(x, 0, "cell", 3, 1, t);
        }
        // 10.3, 31.003, 31.106, 30.591: the greatest rest first
        x.tank(3, 103, 100, 1);
        int[] byRest = {10, 31, 31, 31};
        for (int t = 0; t < 4; t++) {
            due(x, byRest[t], "cell", 0, 1, t);
        }
        due(x, 103, "cell", 2, -1, -1);
        due(x, 103, "cell", 2, 1, -1);
        due(x, 0, "cell", 2, 0, -1);
        refused(x, "cell", 3, -1, -1);
        refused(x, "cell", -1, -1, -1);
        refused(x, "cell", 0, 2, -1);
        refused(x, "cell", 0, -2, -1);
        refused(x, "cell", 0, -1, 4);
        refused(x, "cell", 0, -1, -2);
    }

    private static void promise8Share() {
        GlassTank x = new GlassTank();
        x.feed(SAND, 1000, 0, 0, 0, 0, 0);
        x.feed(SAND, 1000, 0, 0, 0, 0, 0);
        due(x, 0, "share", 0, 1000);
        x.mix();
        due(x, 1000, "share", 0, 0);
        due(x, 0, "share", 0, 400);
        due(x, 1000, "of", 0, 8);
        refused(x, "share", 0, -1);
        refused(x, "share", 0, 1001);
        refused(x, "share", 2, 1);
        refused(x, "share", -1, 1);
        due(x, 400, "share", 0, 400);
    }

    private static void promise9Mix() {
        GlassTank x = new GlassTank();
        refused(x, "mix");
        x.feed(SAND, 1000, 0, 0, 0, 0, 0);
        x.feed(SAND, 1000, 0, 0, 0, 0, 0);
        x.share(0, 999);
        refused(x, "mix");
        x.share(1, 2);
        refused(x, "mix");
        x.share(1, 1);
        due(x, 1, "mix");
        due(x, 999, "of", 0, 8);
        due(x, 1, "of", 1, 8);
        x.share(0, 5);
        refused(x, "mix");
        due(x, 999, "of", 0, 8);
    }

    private static void promise10Colour() {
        GlassTank x = twoCells();
        for (int c = 0; c < 6; c++) {
            due(x, c, "colour");
            due(x, 1, "sure", c);
            due(x, 1, "when", c);
        }
        refused(x, "colour");
    }

    private static void promise11Span() {
        GlassTank x = twoCells();
        x.hours(2);
        x.colour();
        // glass of 38 and 12 grams: 760 and 240 thousandths
        due(x, 1, "span", 0, 0, 760, 760);
        due(x, 1, "span", 0, 1, 240, 240);
        due(x, 1, "when", 0);
        due(x, 1, "span", 0, 0, 761, 1000);
        due(x, 0, "when", 0);
        due(x, 1, "span", 0, 0, 0, 759);
        due(x, 0, "when", 0);
        due(x, 1, "span", 0, 0, 0, 1000);
        due(x, 1, "when", 0);
        refused(x, "span", 0, 0, -1, 5);
        refused(x, "span", 0, 0, 0, 1001);
        refused(x, "span", 0, 0, 1001, 1001);
        refused(x, "span", 0, 0, -2, -1);
        refused(x, "span", 0, 0, 6, 5);
        refused(x, "span", 0, 4, 0, 1);
        refused(x, "span", 0, -1, 0, 1);
        refused(x, "span", 1, 0, 0, 1);
        refused(x, "span", -1, 0, 0, 1);
    }

    private static void promise12Sure() {
        GlassTank x = new GlassTank();
        x.feed(SAND, 1000, 0, 0, 0, 0, 0);
        x.feed(BROKEN, 30, 970, 0, 0, 50, 0);
        x.colour();
        refused(x, "sure", 0);
        x.share(0, 500);
        x.share(1, 500);
        x.mix();
        refused(x, "sure", 1);
        refused(x, "sure", -1);
        // thing 0 from 500 (30 less 50 is 0 at least) to 540, thing 1 from 460 to 500 (970 and 50 is 1000 at most)
        spanIsSure(x, 0, 500, 540, 1);
        spanIsSure(x, 0, 501, 540, 0);
        spanIsSure(x, 0, 500, 539, 0);
        spanIsSure(x, 0, 0, 1000, 1);
        spanIsSure(x, 1, 460, 500, 1);
        spanIsSure(x, 1, 461, 500, 0);
        spanIsSure(x, 1, 460, 499, 0);
        spanIsSure(x, 1, 0, 1000, 1);
        // doubt makes things that are not there possible
        spanIsSure(x, 3, 0, 25, 1);
        spanIsSure(x, 3, 0, 24, 0);
        x.share(0, 0);
        due(x, 0, "sure", 0);
        sureToTheMillionth();
    }

    private static void sureToTheMillionth() {
        GlassTank x = new GlassTank();
        x.feed(SAND, 1000, 0, 0, 0, 0, 0);
        x.feed(SAND, 999, 1, 0, 0, 0, 0);
        x.feed(BROKEN, 0, 1000, 0, 0, 5, 0);
        x.colour();
        x.share(0, 999);
        x.share(1, 1);
        x.mix();
        spanIsSure(x, 0, 999, 1000, 1);
        spanIsSure(x, 0, 1000, 1000, 0);
        spanIsSure(x, 0, 0, 1000, 1);
        spanIsSure(x, 1, 0, 1, 1);
        spanIsSure(x, 1, 0, 0, 0);
        x.share(0, 0);
        x.share(1, 0);
        x.share(2, 1000);
        x.mix();
        spanIsSure(x, 1, 995, 1000, 1);
        spanIsSure(x, 0, 1, 1000, 0);
    }

    private static void spanIsSure(GlassTank x, int t, int least, int most, int sure) {
        x.span(0, t, least, most);
        checks.due("sure(0) with a span of " + t + " from " + least + " to " + most, x.sure(0), sure);
    }

    private static void promise13Cheapest() {
        GlassTank x = new GlassTank();
        x.colour();
        refused(x, "cheapest", 0);
        x.feed(SAND, 1000, 0, 0, 0, 0, 5);
        x.feed(SAND, 0, 1000, 0, 0, 0, 5);
        x.feed(SAND, 500, 500, 0, 0, 0, 6);
        refused(x, "cheapest", 1);
        refused(x, "cheapest", -1);
        // of several with the least price the one with more of the first feed
        due(x, 5000, "cheapest", 0);
        due(x, 1000, "of", 0, 8);
        x.span(0, 0, 400, 600);
        due(x, 5000, "cheapest", 0);
        due(x, 600, "of", 0, 8);
        due(x, 400, "of", 1, 8);
        due(x, 0, "of", 2, 8);
        due(x, 600, "share", 0, 1);
        refused(x, "cheapest", 7);
        // what is between two steps is not tried, but feed 2 by itself is in the middle
        x.span(0, 0, 450, 460);
        due(x, 5100, "cheapest", 0);
        due(x, 400, "of", 0, 8);
        due(x, 500, "of", 1, 8);
        due(x, 100, "of", 2, 8);
        x.span(0, 0, 451, 459);
        refused(x, "cheapest", 0);
        cheapestOfEight();
        cheapestIsTheLastTried();
    }

    private static void cheapestIsTheLastTried() {
        GlassTank x = new GlassTank();
        x.colour();
        x.feed(SAND, 1000, 0, 0, 0, 0, 10000);
        due(x, 10000000, "cheapest", 0);
        due(x, 1000, "of", 0, 8);
        x.feed(TINT, 1000, 0, 0, 0, 0, 1);
        due(x, 1000, "cheapest", 0);
        due(x, 0, "of", 0, 8);
        due(x, 1000, "of", 1, 8);
        x.feed(SAND, 1000, 0, 0, 0, 0, 0);
        due(x, 0, "cheapest", 0);
        due(x, 1000, "of", 2, 8);
    }

    private static void cheapestOfEight() {
        GlassTank x = new GlassTank();
        for (int f = 0; f < 8; f++) {
            x.feed(SAND, 100 * f, 1000 - 100 * f, 0, 0, 0, 10000 - f);
        }
        x.colour();
        due(x, 9993000, "cheapest", 0);
        due(x, 1000, "of", 7, 8);
        x.span(0, 1, 890, 1000);
        // a step of feed f brings 10 f thousandths of thing 0, 110 in all: 4 and 7 leave most to feed 0, then to feed 1
        due(x, 9998900, "cheapest", 0);
        due(x, 800, "of", 0, 8);
        due(x, 100, "of", 4, 8);
        due(x, 100, "of", 7, 8);
        due(x, 100, "share", 7, 0);
    }

    private static void promise14Want() {
        GlassTank x = Sample.prepared();
        due(x, -1, "want", 2);
        due(x, 2, "want", 0);
        refused(x, "want", 3);
        refused(x, "want", -2);
        due(x, 0, "want", -1);
        due(x, -1, "want", -1);
    }

    private static void promise15Hours() {
        GlassTank x = twoCells();
        x.colour();
        due(x, 2, "hours", 2);
        int[][] two = {{25, 75}, {75, 25}};
        cellsAre(x, two);
        // 12.5 and 37.5 go out of cell 0: of equal rests the lower number first
        due(x, 1, "hours", 1);
        int[][] three = {{12, 88}, {50, 50}};
        cellsAre(x, three);
        due(x, 38, "glass", 2, 0);
        due(x, 12, "glass", 2, 1);
        refused(x, "hours", 0);
        refused(x, "hours", 51);
        refused(x, "hours", -1);
        for (int i = 0; i < 7; i++) {
            due(x, 50, "hours", 50);
        }
        refused(x, "hours", 48);
        due(x, 47, "hours", 47);
        due(x, 400, "told", 3);
        refused(x, "hours", 1);
        due(x, 50, "glass", 399, 6);
        GlassTank noTank = Sample.prepared();
        refused(noTank, "hours", 1);
        GlassTank noMix = new GlassTank();
        noMix.feed(SAND, 1000, 0, 0, 0, 0, 0);
        noMix.tank(2, 100, 1, 0);
        refused(noMix, "hours", 1);
    }

    private static void cellsAre(GlassTank x, int[][] grams) {
        for (int c = 0; c < grams.length; c++) {
            for (int f = 0; f < 2; f++) {
                due(x, grams[c][f], "cell", c, f, f);
            }
            due(x, 100, "cell", c, -1, -1);
        }
    }

    private static void promise15Stocks() {
        GlassTank x = new GlassTank();
        x.feed(SAND, 1000, 0, 0, 0, 0, 0);
        x.feed(SAND, 0, 1000, 0, 0, 0, 0);
        x.feed(SAND, 0, 0, 1000, 0, 0, 0);
        x.share(0, 333);
        x.share(1, 333);
        x.share(2, 334);
        x.mix();
        x.tank(2, 100, 10, 0);
        // 3.33, 3.33, 3.34: the gram that is left goes to the greatest rest
        x.stock(0, 6);
        x.stock(1, 100);
        x.stock(2, 11);
        due(x, 2, "hours", 50);
        due(x, 0, "of", 0, 7);
        due(x, 94, "of", 1, 7);
        due(x, 3, "of", 2, 7);
        // in the second hour 9.3, 0.3 and 0.4 go out: 9, 0 and 1
        due(x, 7, "cell", 0, 2, 2);
        due(x, 6, "cell", 0, 1, 1);
        x.stock(0, 100);
        due(x, 0, "hours", 50);
        x.stock(2, 1);
        due(x, 1, "hours", 50);
        due(x, 30, "told", 5);
    }

    private static void promise15Waste() {
        GlassTank x = new GlassTank();
        x.feed(SAND, 1000, 0, 0, 0, 0, 0);
        x.feed(OWN, 1000, 0, 0, 0, 0, 0);
        x.feed(OWN, 1000, 0, 0, 0, 0, 0);
        x.share(1, 1000);
        x.mix();
        x.tank(2, 100, 10, 0);
        // waste comes at the end of the hour: too late for its own beginning
        due(x, 0, "hours", 50);
        x.stock(1, 10);
        due(x, 50, "hours", 50);
        due(x, 10, "of", 1, 7);
        due(x, 0, "of", 2, 7);
        due(x, 500, "told", 4);
        x.colour();
        x.colour();
        // glass of both colours has the name of the first: wanted as the second it is waste
        x.want(1);
        due(x, 1, "hours", 1);
        due(x, 0, "glass", 50, 4);
        due(x, 1, "glass", 50, 5);
        x.want(0);
        due(x, 1, "hours", 50);
        due(x, 0, "of", 1, 7);
        due(x, 510, "told", 4);
        x.want(-1);
        x.share(1, 0);
        x.share(0, 1000);
        x.mix();
        x.stock(0, 10000);
        x.stock(1, 9999985);
        due(x, 1, "hours", 1);
        due(x, 9999995, "of", 1, 7);
        due(x, 2, "hours", 2);
        due(x, 10000000, "of", 1, 7);
        due(x, 540, "told", 4);
    }

    /** As many feeds, cells and colours as there may be, all in use. */
    private static void promise15AllAtOnce() {
        GlassTank x = new GlassTank();
        for (int f = 0; f < 8; f++) {
            x.feed(f == 0 ? OWN : f == 7 ? TINT : SAND, 250 + f, 250 - f, 240 + 3 * f, 260 - 3 * f, 0, 0);
            x.stock(f, 1000000);
            x.share(f, 125);
        }
        x.mix();
        for (int c = 0; c < 6; c++) {
            x.colour();
            x.span(c, 0, c == 5 ? 0 : 999, 1000);
        }
        x.tank(6, 1237, 123, 7);
        due(x, 50, "hours", 50);
        for (int c = 0; c < 6; c++) {
            int sum = 0;
            for (int f = 0; f < 8; f++) {
                sum += x.cell(c, f, -1);
            }
            checks.due("grams of all feeds in cell " + c, sum, 1237);
            due(x, 1237, "cell", c, -1, -1);
        }
        for (int hour = 0; hour < 50; hour++) {
            int sum = 0;
            for (int f = 0; f < 8; f++) {
                sum += x.lead(hour, f);
            }
            checks.due("grams of all feeds in the glass of hour " + hour, sum, 123);
            due(x, 5, "glass", hour, 4);
        }
        // feed 0 is OWN and gets the waste; each feed gives 15 or 16 grams an hour, the first three 16
        due(x, 1000000 - 50 * 16 + 50 * 123, "of", 0, 7);
        due(x, 1000000 - 50 * 15, "of", 7, 7);
        due(x, 1, "when", 5);
        due(x, 0, "when", 0);
        due(x, 0, "dose", 0, 7);
        due(x, 0, "between");
        x.span(5, 0, 999, 1000);
        due(x, 100, "between");
        wasteWithoutOwn();
    }

    private static void wasteWithoutOwn() {
        GlassTank x = new GlassTank();
        for (int f = 0; f < 8; f++) {
            x.feed(f % 3, 1000, 0, 0, 0, 0, 0);
            x.stock(f, 100);
        }
        x.share(0, 1000);
        x.mix();
        x.tank(2, 100, 30, 0);
        due(x, 3, "hours", 5);
        due(x, 10, "of", 0, 7);
        for (int f = 1; f < 8; f++) {
            due(x, 100, "of", f, 7);
        }
        due(x, 90, "told", 4);
    }

    private static void promise16Glass() {
        GlassTank x = twoCells();
        x.colour();
        x.span(0, 1, 1, 1000);
        x.colour();
        x.want(0);
        x.hours(3);
        int[][] due = {{50, 0, 0, 0, 1, 1, 50}, {50, 0, 0, 0, 1, 1, 50}, {38, 12, 0, 0, 0, 0, 50}};
        for (int hour = 0; hour < 3; hour++) {
            for (int what = 0; what < 7; what++) {
                due(x, due[hour][what], "glass", hour, what);
            }
        }
        // the name is as colours were then
        x.span(0, 1, 0, 0);
        x.span(1, 1, 1000, 1000);
        x.want(-1);
        due(x, 1, "glass", 0, 4);
        due(x, 0, "glass", 2, 4);
        due(x, 0, "glass", 2, 5);
        due(x, 1, "hours", 1);
        due(x, -1, "glass", 3, 4);
        due(x, 1, "glass", 3, 5);
        refused(x, "glass", 4, 0);
        refused(x, "glass", -1, 0);
        refused(x, "glass", 0, 7);
        refused(x, "glass", 0, -1);
    }

    private static void promise17Lead() {
        GlassTank x = new GlassTank();
        x.feed(SAND, 600, 400, 0, 0, 0, 0);
        x.feed(SAND, 600, 400, 0, 0, 0, 0);
        x.stock(1, 10000);
        x.share(1, 1000);
        x.mix();
        x.tank(2, 100, 100, 0);
        x.hours(3);
        int[][] leads = {{100, 0}, {100, 0}, {0, 100}};
        for (int hour = 0; hour < 3; hour++) {
            due(x, leads[hour][0], "lead", hour, 0);
            due(x, leads[hour][1], "lead", hour, 1);
            due(x, 60, "glass", hour, 0);
        }
        // a single gram of a thing goes out too
        x.feed(SAND, 990, 10, 0, 0, 0, 0);
        x.tank(2, 100, 100, 2);
        x.hours(3);
        due(x, 99, "glass", 0, 0);
        due(x, 1, "glass", 0, 1);
        due(x, 100, "lead", 0, 2);
        refused(x, "lead", 3, 0);
        refused(x, "lead", -1, 0);
        refused(x, "lead", 0, 3);
        refused(x, "lead", 0, -1);
        x.feed(SAND, 600, 400, 0, 0, 0, 0);
        due(x, 0, "lead", 0, 3);
    }

    private static void promise18When() {
        GlassTank x = twoCells();
        refused(x, "when", 0);
        x.colour();
        x.colour();
        refused(x, "when", 2);
        refused(x, "when", -1);
        String before = Snapshot.of(x);
        due(x, 1, "when", 1);
        checks.due("what is there after when(1)", Snapshot.of(x), before);
        // told hours 3 and 4 have 12 and 25 grams of thing 1
        x.span(1, 1, 1, 1000);
        due(x, 3, "when", 1);
        x.span(1, 1, 241, 1000);
        due(x, 4, "when", 1);
        x.hours(1);
        due(x, 3, "when", 1);
        x.span(1, 2, 1, 1000);
        due(x, 0, "when", 1);
        refused(Sample.prepared(), "when", 0);
        GlassTank noMix = new GlassTank();
        noMix.feed(SAND, 1000, 0, 0, 0, 0, 0);
        noMix.colour();
        noMix.tank(2, 100, 1, 0);
        refused(noMix, "when", 0);
        // stocks are not asked
        noMix.share(0, 1000);
        noMix.mix();
        due(noMix, 1, "when", 0);
        due(noMix, 0, "hours", 1);
    }

    /** A pull of 1000 grams from great cells, so that each hour's thousandths differ from the hour before. */
    private static GlassTank slowTank() {
        GlassTank x = twoCells();
        x.feed(TINT, 1000, 0, 0, 0, 0, 0);
        x.colour();
        x.tank(2, 100000, 1000, 0);
        return x;
    }

    private static void promise18UpTo100() {
        GlassTank past = slowTank();
        past.hours(50);
        past.hours(50);
        past.hours(1);
        int hundred = past.glass(99, 1);
        int later = past.glass(100, 1);
        checks.holds("glass of hour 100 differs", past.glass(98, 1) < hundred && hundred < later);
        GlassTank x = slowTank();
        x.span(0, 1, hundred, 1000);
        due(x, 100, "when", 0);
        due(x, 99, "between");
        due(x, 10000000, "dose", 0, 2);
        x.span(0, 1, later, 1000);
        due(x, 0, "when", 0);
        due(x, 100, "between");
        due(x, 0, "dose", 0, 2);
        x.hours(1);
        due(x, 100, "when", 0);
    }

    private static void promise19Between() {
        GlassTank x = twoCells();
        due(x, 100, "between");
        x.colour();
        due(x, 0, "between");
        // hours 1 and 2 have no thing 1, hour 3 has 240 thousandths, hour 4 has 500
        x.span(0, 1, 1, 1000);
        due(x, 2, "between");
        x.span(0, 1, 241, 1000);
        due(x, 3, "between");
        x.colour();
        x.span(1, 1, 0, 0);
        String before = Snapshot.of(x);
        due(x, 1, "between");
        checks.due("what is there after between()", Snapshot.of(x), before);
        refused(Sample.prepared(), "between");
        GlassTank noMix = new GlassTank();
        noMix.feed(SAND, 1000, 0, 0, 0, 0, 0);
        noMix.tank(2, 100, 1, 0);
        refused(noMix, "between");
    }

    private static void promise20Dose() {
        GlassTank x = new GlassTank();
        x.feed(SAND, 1000, 0, 0, 0, 0, 0);
        x.feed(TINT, 0, 0, 0, 1000, 0, 0);
        x.colour();
        refused(x, "dose", 0, 1);
        x.tank(2, 100, 50, 0);
        refused(x, "dose", 0, 1);
        x.share(0, 1000);
        x.mix();
        due(x, 100000, "dose", 0, 1);
        refused(x, "dose", 1, 1);
        refused(x, "dose", -1, 1);
        refused(x, "dose", 0, 0);
        refused(x, "dose", 0, 2);
        refused(x, "dose", 0, -1);
        // s 400 for an hour: 20 grams in, 10 to cell 1, 5 of 50 out in hour 3; s 300 brings 3 only
        x.span(0, 3, 100, 1000);
        due(x, 0, "when", 0);
        String before = Snapshot.of(x);
        due(x, 340001, "dose", 0, 1);
        checks.due("what is there after dose(0, 1)", Snapshot.of(x), before);
        // s 500 brings 6 of 50 at most in hour 3
        x.span(0, 3, 120, 1000);
        due(x, 350001, "dose", 0, 1);
        // 2 hours of s 500: 25, then 38 grams in cell 0; 12, then 25 in cell 1; 12 or 13 of 50 out in hour 4
        x.span(0, 3, 240, 1000);
        due(x, 450002, "dose", 0, 1);
        x.span(0, 2, 1, 1000);
        due(x, 0, "dose", 0, 1);
        refused(Sample.prepared(), "dose", 1, 1);
        doseOfATintInTheMix();
        doseForTenHours();
    }

    private static void doseForTenHours() {
        GlassTank x = new GlassTank();
        x.feed(SAND, 1000, 0, 0, 0, 0, 0);
        x.feed(TINT, 0, 0, 0, 1000, 0, 0);
        x.colour();
        x.tank(2, 1000, 100, 0);
        x.share(0, 1000);
        x.mix();
        x.span(0, 3, 160, 1000);
        due(x, 1350009, "dose", 0, 1);
        x.span(0, 3, 190, 1000);
        due(x, 1750010, "dose", 0, 1);
        x.span(0, 3, 191, 1000);
        due(x, 0, "dose", 0, 1);
    }

    private static void doseOfATintInTheMix() {
        GlassTank x = Sample.prepared();
        x.tank(3, 1000, 100, 0);
        due(x, 37, "when", 1);
        due(x, 1450008, "dose", 1, 1);
        due(x, 100000, "dose", 0, 1);
        due(x, 0, "dose", 2, 1);
        // all of a cell goes on each hour: glass of hour 3 came in in hour 1, with a dose of 500 as tint by 250 and 500
        x.share(0, 500);
        x.share(1, 500);
        x.mix();
        x.tank(2, 100, 100, 0);
        x.span(1, 2, 370, 380);
        due(x, 0, "when", 1);
        due(x, 350001, "dose", 1, 1);
        x.span(1, 2, 340, 350);
        due(x, 340001, "dose", 1, 1);
    }

    private static void promise21Change() {
        GlassTank x = Sample.running();
        due(x, 0, "change", 0, 2, 1000);
        due(x, 1000, "change", 0, 2, 0);
        due(x, 0, "change", 2, 0, 3);
        due(x, 5, "change", 0, 1, 5);
        refused(x, "change", 0, 0, 1);
        refused(x, "change", 0, 3, 1);
        refused(x, "change", 3, 0, 1);
        refused(x, "change", -1, 0, 1);
        refused(x, "change", 0, -1, 1);
        refused(x, "change", 0, 1, -1);
        refused(x, "change", 0, 1, 1001);
    }

    private static void promise22Ring() {
        GlassTank x = new GlassTank();
        for (int c = 0; c < 6; c++) {
            x.colour();
            refused(x, "ring", 1 << (c + 1));
        }
        for (int from = 0; from < 6; from++) {
            for (int to = 0; to < 6; to++) {
                x.change(from, to, 100);
            }
        }
        due(x, 600, "ring", 63);
        ringIs(x, 0, 1, 2, 3, 4, 5);
        int[] cheap = {0, 4, 2, 5, 1, 3};
        for (int i = 0; i < 6; i++) {
            x.change(cheap[i], cheap[(i + 1) % 6], i);
        }
        due(x, 15, "ring", 63);
        ringIs(x, 0, 4, 2, 5, 1, 3);
        // without 0 and 4 the way from 3 back to 2 is dear
        due(x, 2 + 3 + 4 + 100, "ring", 46);
        ringIs(x, 1, 3, 2, 5);
        due(x, 0, "ring", 32);
        ringIs(x, 5);
        due(x, 0, "ring", 1);
        ringIs(x, 0);
        x.change(1, 2, 7);
        due(x, 107, "ring", 6);
        refused(x, "ring", 0);
        refused(x, "ring", 64);
        refused(x, "ring", 65);
        refused(x, "ring", -1);
        refused(x, "ring", Integer.MIN_VALUE);
        refused(x, "ring", Integer.MIN_VALUE + 1);
    }

    private static void ringIs(GlassTank x, int... colours) {
        for (int k = 0; k < colours.length; k++) {
            due(x, colours[k], "next", k);
        }
        due(x, -1, "next", colours.length);
    }

    private static void promise23Next() {
        GlassTank x = new GlassTank();
        for (int c = 0; c < 4; c++) {
            x.colour();
        }
        due(x, -1, "next", 0);
        due(x, 0, "ring", 15);
        ringIs(x, 0, 1, 2, 3);
        for (int from = 0; from < 4; from++) {
            for (int to = 0; to < 4; to++) {
                x.change(from, to, 9);
            }
        }
        // 0 1 3 2 and 0 2 1 3 take 4 hours: the one with the lesser colour where they first differ
        x.change(0, 1, 1);
        x.change(1, 3, 1);
        x.change(3, 2, 1);
        x.change(2, 0, 1);
        x.change(0, 2, 1);
        x.change(2, 1, 1);
        x.change(3, 0, 1);
        due(x, 4, "ring", 15);
        ringIs(x, 0, 1, 3, 2);
        x.change(0, 1, 900);
        ringIs(x, 0, 1, 3, 2);
        x.ring(0);
        ringIs(x, 0, 1, 3, 2);
        due(x, -1, "next", -1);
        due(x, -1, "next", Integer.MAX_VALUE);
        due(x, -1, "next", Integer.MIN_VALUE);
        due(x, 0, "ring", 8);
        ringIs(x, 3);
    }

    private static void promise24Told() {
        GlassTank x = Sample.running();
        int[] told = {3, 3, 3, 8, 0, 800, 3000};
        for (int what = 0; what < told.length; what++) {
            due(x, told[what], "told", what);
        }
        refused(x, "told", 7);
        refused(x, "told", -1);
        x.want(-1);
        x.pull(30);
        x.hours(2);
        due(x, 60, "told", 4);
        due(x, 860, "told", 5);
        due(x, 3000, "told", 6);
        x.feed(SAND, 1000, 0, 0, 0, 0, 0);
        x.colour();
        due(x, 4, "told", 0);
        due(x, 4, "told", 2);
        x.tank(4, 200, 10, 0);
        due(x, 4, "told", 1);
        due(x, 800, "told", 6);
    }
}
