/**
 * A furnace for glass that never stops. The promises are told in DOC.md; its
 * words (FEED, LOT, SHARED, TOLD HOUR and so on) are used here as it tells them.
 *
 * <p>Every row is made in the constructor and used again, so that no call makes
 * an object.
 */
public final class GlassTank {
    public static final int NO = -1000000000;

    private static final int NONE = -1;
    private static final int ALL = -1;
    private static final int WHOLE = 1000;

    private static final int THINGS = 4;
    private static final int MOST_FEEDS = 8;
    private static final int LOT = MOST_FEEDS * THINGS;
    private static final int SAND = 0;
    private static final int TINT = 2;
    private static final int OWN = 3;
    private static final int MOST_DOUBT = 100;
    private static final int MOST_PRICE = 10000;
    private static final int MOST_STOCK = 10000000;

    private static final int LEAST_CELLS = 2;
    private static final int MOST_CELLS = 6;
    private static final int LEAST_WEIGHT = 100;
    private static final int MOST_WEIGHT = 100000;

    private static final int MOST_COLOURS = 6;
    private static final int MIX_STEP = 100;
    /** Above the 19448 ways to give ten steps to eight feeds. */
    private static final int MOST_MIXES = 20000;
    private static final int MOST_CHANGE = 1000;
    /** Above the 120 orders of the five colours behind the first. */
    private static final int MOST_ORDERS = 200;

    private static final int MOST_HOURS = 400;
    private static final int MOST_HOURS_AT_ONCE = 50;
    private static final int TOLD_HOURS = 100;
    private static final int DOSE_STEP = 100;
    private static final int MOST_DOSE = 500;
    private static final int MOST_DOSE_HOURS = 10;

    private final Feeds feeds;
    private final Mix mix;
    private final MixSearch mixSearch;
    private final Tank tank;
    private final Charge charge;
    private final Glass glass;
    private final Colours colours;
    private final Log log;
    private final Forecast forecast;
    private final Ring ring;
    private int wanted;

    public GlassTank() {
        Sharer sharer = new Sharer();
        feeds = new Feeds();
        mix = new Mix();
        colours = new Colours();
        mixSearch = new MixSearch(feeds, colours);
        tank = new Tank(sharer);
        charge = new Charge(feeds, mix, sharer);
        glass = new Glass();
        log = new Log();
        forecast = new Forecast(tank, colours, new Charge(feeds, mix, sharer),
                new Charge(feeds, mix, sharer), new Tank(sharer));
        ring = new Ring();
        wanted = NONE;
    }

    // ---- feeds

    public int feed(int kind, int a, int b, int c, int d, int doubt, int price) {
        if (!isWithin(kind, SAND, OWN) || !isMakeUp(a, b, c, d)) {
            return NO;
        }
        if (!isWithin(doubt, 0, mostDoubt(kind)) || !isWithin(price, 0, MOST_PRICE)) {
            return NO;
        }
        return feeds.add(kind, a, b, c, d, doubt, price);
    }

    public int stock(int f, int grams) {
        if (!feeds.has(f) || grams < 0 || grams > MOST_STOCK - feeds.stocks[f]) {
            return NO;
        }
        feeds.stocks[f] += grams;
        return feeds.stocks[f];
    }

    public int of(int f, int what) {
        if (!feeds.has(f)) {
            return NO;
        }
        switch (what) {
            case 0:
            case 1:
            case 2:
            case 3:
                return feeds.makeUps[f][what];
            case 4:
                return feeds.kinds[f];
            case 5:
                return feeds.doubts[f];
            case 6:
                return feeds.prices[f];
            case 7:
                return feeds.stocks[f];
            case 8:
                return mix.shares[f];
            default:
                return NO;
        }
    }

    // ---- the tank

    public int tank(int n, int w, int p, int f) {
        if (!isWithin(n, LEAST_CELLS, MOST_CELLS) || !isWithin(w, LEAST_WEIGHT, MOST_WEIGHT)) {
            return NO;
        }
        if (!isWithin(p, 1, w) || !feeds.has(f)) {
            return NO;
        }
        tank.fill(n, w, f, feeds.makeUps[f]);
        tank.pulled = p;
        log.clear();
        return 1;
    }

    public int pull(int p) {
        if (!isWithin(p, 1, tank.weight)) {
            return NO;
        }
        int before = tank.pulled;
        tank.pulled = p;
        return before;
    }

    public int cell(int c, int f, int t) {
        if (!isWithin(c, 0, tank.cellCount - 1) || (f != ALL && !feeds.has(f))) {
            return NO;
        }
        if ((t != ALL && !isThing(t)) || !tank.made) {
            return NO;
        }
        return tank.gramsIn(c, f, t);
    }

    // ---- mixes, colours

    public int share(int f, int s) {
        if (!feeds.has(f) || !isWithin(s, 0, WHOLE)) {
            return NO;
        }
        int before = mix.toCome[f];
        mix.toCome[f] = s;
        return before;
    }

    public int mix() {
        if (sumOf(mix.toCome) != WHOLE) {
            return NO;
        }
        mix.become(mix.toCome);
        return 1;
    }

    public int colour() {
        return colours.add();
    }

    public int span(int c, int t, int least, int most) {
        if (!colours.has(c) || !isThing(t)) {
            return NO;
        }
        if (!isWithin(least, 0, WHOLE) || !isWithin(most, 0, WHOLE) || least > most) {
            return NO;
        }
        colours.least[c][t] = least;
        colours.most[c][t] = most;
        return 1;
    }

    public int sure(int c) {
        if (!colours.has(c) || !mix.made) {
            return NO;
        }
        return colours.isSure(c, mix.shares, feeds) ? 1 : 0;
    }

    public int cheapest(int c) {
        if (!colours.has(c) || !mixSearch.find(c)) {
            return NO;
        }
        mix.become(mixSearch.best);
        return mixSearch.bestCost;
    }

    // ---- hours

    public int want(int c) {
        if (c != NONE && !colours.has(c)) {
            return NO;
        }
        int before = wanted;
        wanted = c;
        return before;
    }

    public int hours(int n) {
        if (!isWithin(n, 1, MOST_HOURS_AT_ONCE) || !canRun() || log.count + n > MOST_HOURS) {
            return NO;
        }
        charge.measure(tank.pulled, NONE, 0);
        int gone = 0;
        while (gone < n && feeds.haveAll(charge.taken)) {
            passHour();
            gone++;
        }
        return gone;
    }

    public int glass(int hour, int what) {
        if (!log.has(hour)) {
            return NO;
        }
        switch (what) {
            case 0:
            case 1:
            case 2:
            case 3:
                return log.things[hour * THINGS + what];
            case 4:
                return log.names[hour];
            case 5:
                return log.wasted[hour] ? 1 : 0;
            case 6:
                return log.grams[hour];
            default:
                return NO;
        }
    }

    public int lead(int hour, int f) {
        if (!log.has(hour) || !feeds.has(f)) {
            return NO;
        }
        return log.leads[hour * MOST_FEEDS + f];
    }

    public int when(int c) {
        if (!colours.has(c) || !canRun()) {
            return NO;
        }
        return forecast.firstHour(c);
    }

    public int between() {
        if (!canRun()) {
            return NO;
        }
        return forecast.hoursWithoutName();
    }

    public int dose(int c, int f) {
        if (!colours.has(c) || !feeds.has(f) || feeds.kinds[f] != TINT || !canRun()) {
            return NO;
        }
        return forecast.bestDose(c, f);
    }

    // ---- orders

    public int change(int from, int to, int hours) {
        if (!colours.has(from) || !colours.has(to) || from == to) {
            return NO;
        }
        if (!isWithin(hours, 0, MOST_CHANGE)) {
            return NO;
        }
        int before = ring.changes[from][to];
        ring.changes[from][to] = hours;
        return before;
    }

    public int ring(int set) {
        if (!isWithin(set, 1, (1 << colours.count) - 1)) {
            return NO;
        }
        return ring.leastSum(set);
    }

    public int next(int k) {
        if (!isWithin(k, 0, ring.latestSize - 1)) {
            return NONE;
        }
        return ring.latest[k];
    }

    public int told(int what) {
        switch (what) {
            case 0:
                return feeds.count;
            case 1:
                return tank.cellCount;
            case 2:
                return colours.count;
            case 3:
                return log.count;
            case 4:
                return log.wasteGrams;
            case 5:
                return log.putIn;
            case 6:
                return tank.allGrams();
            default:
                return NO;
        }
    }

    // ---- helpers

    private static boolean isWithin(int x, int least, int most) {
        return x >= least && x <= most;
    }

    private static boolean isThing(int t) {
        return isWithin(t, 0, THINGS - 1);
    }

    private static boolean isMakeUp(int a, int b, int c, int d) {
        // as longs: four great numbers could wrap round to 1000
        return a >= 0 && b >= 0 && c >= 0 && d >= 0 && (long) a + b + c + d == WHOLE;
    }

    private static int mostDoubt(int kind) {
        return kind == SAND || kind == TINT ? 0 : MOST_DOUBT;
    }

    private static int sumOf(int[] row) {
        int sum = 0;
        for (int x : row) {
            sum += x;
        }
        return sum;
    }

    private boolean canRun() {
        return tank.made && mix.made;
    }

    private void passHour() {
        feeds.takeAll(charge.taken);
        tank.pass(charge);
        glass.read(tank);
        int name = colours.nameOf(glass);
        boolean isWaste = wanted == NONE || name != wanted;
        log.add(glass, name, isWaste);
        if (isWaste) {
            feeds.takeBack(glass.grams);
        }
    }

    /** Shares grams by weights; it has rows of its own for the rests. */
    private static final class Sharer {
        private final long[] rests = new long[LOT];
        private final int[] places = new int[LOT];

        /** Shares by the first weights, so many as size, to out from a place on. */
        void split(int grams, int[] weights, int size, int[] out, int at) {
            if (size > LOT || size > weights.length || at < 0 || at > out.length - size) {
                return;
            }
            long total = 0;
            for (int i = 0; i < size; i++) {
                total += weights[i];
            }
            if (total <= 0) {
                return;
            }
            int left = grams;
            int restCount = 0;
            for (int i = 0; i < size; i++) {
                int part = 0;
                if (weights[i] != 0) {
                    long product = (long) grams * weights[i];
                    part = (int) (product / total);
                    long rest = product - part * total;
                    if (rest > 0) {
                        rests[restCount] = rest;
                        places[restCount] = at + i;
                        restCount++;
                    }
                }
                out[at + i] = part;
                left -= part;
            }
            giveLeft(left, restCount, out);
        }

        /** There are always more rests above 0 than grams left: the rests' sum is left times the total. */
        private void giveLeft(int left, int restCount, int[] out) {
            for (int given = 0; given < left && given < restCount; given++) {
                int greatest = 0;
                for (int i = 1; i < restCount; i++) {
                    if (rests[i] > rests[greatest]) {
                        greatest = i;
                    }
                }
                out[places[greatest]]++;
                rests[greatest] = 0;
            }
        }
    }

    private static final class Feeds {
        int count;
        final int[] kinds = new int[MOST_FEEDS];
        final int[][] makeUps = new int[MOST_FEEDS][THINGS];
        final int[] doubts = new int[MOST_FEEDS];
        final int[] prices = new int[MOST_FEEDS];
        final int[] stocks = new int[MOST_FEEDS];

        boolean has(int f) {
            return f >= 0 && f < count;
        }

        /** The new feed's number, or NO when there are as many as there may be. */
        int add(int kind, int a, int b, int c, int d, int doubt, int price) {
            if (count >= MOST_FEEDS) {
                return NO;
            }
            int f = count;
            kinds[f] = kind;
            makeUps[f][0] = a;
            makeUps[f][1] = b;
            makeUps[f][2] = c;
            makeUps[f][3] = d;
            doubts[f] = doubt;
            prices[f] = price;
            count++;
            return f;
        }

        boolean haveAll(int[] taken) {
            for (int f = 0; f < MOST_FEEDS; f++) {
                if (stocks[f] < taken[f]) {
                    return false;
                }
            }
            return true;
        }

        void takeAll(int[] taken) {
            for (int f = 0; f < MOST_FEEDS; f++) {
                stocks[f] -= taken[f];
            }
        }

        void takeBack(int grams) {
            for (int f = 0; f < count; f++) {
                if (kinds[f] == OWN) {
                    stocks[f] = Math.min(stocks[f] + grams, MOST_STOCK);
                    return;
                }
            }
        }
    }

    private static final class Mix {
        boolean made;
        final int[] shares = new int[MOST_FEEDS];
        final int[] toCome = new int[MOST_FEEDS];

        void become(int[] given) {
            for (int f = 0; f < MOST_FEEDS; f++) {
                shares[f] = given[f];
                toCome[f] = given[f];
            }
            made = true;
        }
    }

    private static final class Colours {
        int count;
        final int[][] least = new int[MOST_COLOURS][THINGS];
        final int[][] most = new int[MOST_COLOURS][THINGS];

        boolean has(int c) {
            return c >= 0 && c < count;
        }

        /** The new colour's number, or NO when there are as many as there may be. */
        int add() {
            if (count >= MOST_COLOURS) {
                return NO;
            }
            for (int t = 0; t < THINGS; t++) {
                least[count][t] = 0;
                most[count][t] = WHOLE;
            }
            count++;
            return count - 1;
        }

        boolean fits(int c, Glass glass) {
            for (int t = 0; t < THINGS; t++) {
                int thousandfold = WHOLE * glass.things[t];
                if (thousandfold < least[c][t] * glass.grams || thousandfold > most[c][t] * glass.grams) {
                    return false;
                }
            }
            return true;
        }

        int nameOf(Glass glass) {
            for (int c = 0; c < count; c++) {
                if (fits(c, glass)) {
                    return c;
                }
            }
            return NONE;
        }

        boolean isSure(int c, int[] shares, Feeds feeds) {
            for (int t = 0; t < THINGS; t++) {
                int low = 0;
                int high = 0;
                for (int f = 0; f < feeds.count; f++) {
                    int thousandths = feeds.makeUps[f][t];
                    low += shares[f] * Math.max(thousandths - feeds.doubts[f], 0);
                    high += shares[f] * Math.min(thousandths + feeds.doubts[f], WHOLE);
                }
                if (low < least[c][t] * WHOLE || high > most[c][t] * WHOLE) {
                    return false;
                }
            }
            return true;
        }
    }

    /** Looks for the cheapest mix among all whose shares are multiples of the step. */
    private static final class MixSearch {
        private final Feeds feeds;
        private final Colours colours;
        private final int[] trial = new int[MOST_FEEDS];
        final int[] best = new int[MOST_FEEDS];
        int bestCost;

        MixSearch(Feeds feeds, Colours colours) {
            this.feeds = feeds;
            this.colours = colours;
        }

        boolean find(int c) {
            if (feeds.count == 0) {
                return false;
            }
            for (int f = 0; f < MOST_FEEDS; f++) {
                trial[f] = 0;
            }
            trial[0] = WHOLE;
            boolean found = false;
            boolean more = true;
            for (int i = 0; i < MOST_MIXES && more; i++) {
                int cost = costOfTrial();
                // only a lesser cost: of several the one tried first gives more to the first feed
                if ((!found || cost < bestCost) && colours.isSure(c, trial, feeds)) {
                    found = true;
                    keepTrial(cost);
                }
                more = advance();
            }
            return found;
        }

        private int costOfTrial() {
            int cost = 0;
            for (int f = 0; f < feeds.count; f++) {
                cost += trial[f] * feeds.prices[f];
            }
            return cost;
        }

        private void keepTrial(int cost) {
            bestCost = cost;
            for (int f = 0; f < MOST_FEEDS; f++) {
                best[f] = trial[f];
            }
        }

        /** To the trial that gives least less to the first feeds, or false behind the last. */
        private boolean advance() {
            int last = feeds.count - 1;
            int giver = last - 1;
            while (giver >= 0 && trial[giver] == 0) {
                giver--;
            }
            if (giver < 0) {
                return false;
            }
            int tail = trial[last];
            trial[last] = 0;
            trial[giver] -= MIX_STEP;
            trial[giver + 1] = tail + MIX_STEP;
            return true;
        }
    }

    /** What comes into cell 0 in an hour. */
    private static final class Charge {
        private final Feeds feeds;
        private final Mix mix;
        private final Sharer sharer;
        private final int[] weights = new int[MOST_FEEDS];
        final int[] taken = new int[MOST_FEEDS];
        final int[] lot = new int[LOT];
        /** How many numbers of a lot can be above 0: those of the feeds that there are. */
        int size;

        Charge(Feeds feeds, Mix mix, Sharer sharer) {
            this.feeds = feeds;
            this.mix = mix;
            this.sharer = sharer;
        }

        /** By the mix, with a dose of a tint; a dose of 0 leaves the mix's own sharing. */
        void measure(int grams, int tint, int dose) {
            for (int f = 0; f < MOST_FEEDS; f++) {
                weights[f] = mix.shares[f] * (WHOLE - dose);
            }
            if (feeds.has(tint)) {
                weights[tint] += dose * WHOLE;
            }
            sharer.split(grams, weights, MOST_FEEDS, taken, 0);
            for (int f = 0; f < feeds.count; f++) {
                sharer.split(taken[f], feeds.makeUps[f], THINGS, lot, f * THINGS);
            }
            size = feeds.count * THINGS;
        }
    }

    private static final class Tank {
        private final Sharer sharer;
        private final int[][] cells = new int[MOST_CELLS][LOT];
        /** Row c goes into cell c, row c + 1 out of it. */
        private final int[][] flows = new int[MOST_CELLS + 1][LOT];
        boolean made;
        int cellCount = 3;
        int weight = 1000;
        int pulled = 100;
        /** Whether the latest hour left every cell as it was. */
        boolean isStill;

        Tank(Sharer sharer) {
            this.sharer = sharer;
        }

        void fill(int n, int w, int f, int[] makeUp) {
            made = true;
            cellCount = n;
            weight = w;
            for (int c = 0; c < n; c++) {
                for (int i = 0; i < LOT; i++) {
                    cells[c][i] = 0;
                }
                sharer.split(w, makeUp, THINGS, cells[c], f * THINGS);
            }
        }

        void copy(Tank other) {
            made = other.made;
            cellCount = other.cellCount;
            weight = other.weight;
            pulled = other.pulled;
            for (int c = 0; c < cellCount; c++) {
                System.arraycopy(other.cells[c], 0, cells[c], 0, LOT);
            }
        }

        /** An hour: all that goes out is found before anything moves. */
        void pass(Charge charge) {
            System.arraycopy(charge.lot, 0, flows[0], 0, LOT);
            for (int c = 0; c < cellCount; c++) {
                sharer.split(pulled, cells[c], charge.size, flows[c + 1], 0);
            }
            isStill = true;
            for (int c = 0; c < cellCount; c++) {
                move(c, charge.size);
            }
        }

        private void move(int c, int size) {
            for (int i = 0; i < size; i++) {
                int gain = flows[c][i] - flows[c + 1][i];
                if (gain != 0) {
                    cells[c][i] += gain;
                    isStill = false;
                }
            }
        }

        /** What went out of the last cell in the latest hour. */
        int[] outOfLast() {
            return flows[cellCount];
        }

        int gramsIn(int c, int f, int t) {
            int sum = 0;
            for (int i = 0; i < LOT; i++) {
                if ((f == ALL || f == i / THINGS) && (t == ALL || t == i % THINGS)) {
                    sum += cells[c][i];
                }
            }
            return sum;
        }

        int allGrams() {
            return made ? cellCount * weight : 0;
        }
    }

    private static final class Glass {
        final int[] things = new int[THINGS];
        final int[] leads = new int[MOST_FEEDS];
        int grams;

        void read(Tank tank) {
            int[] lot = tank.outOfLast();
            for (int t = 0; t < THINGS; t++) {
                things[t] = 0;
            }
            for (int f = 0; f < MOST_FEEDS; f++) {
                int lead = 0;
                for (int t = 0; t < THINGS; t++) {
                    int part = lot[f * THINGS + t];
                    things[t] += part;
                    lead += part;
                }
                leads[f] = lead;
            }
            grams = tank.pulled;
        }
    }

    /** The hours that went by since the tank was made. */
    private static final class Log {
        int count;
        int wasteGrams;
        int putIn;
        final int[] things = new int[MOST_HOURS * THINGS];
        final int[] leads = new int[MOST_HOURS * MOST_FEEDS];
        final int[] grams = new int[MOST_HOURS];
        final int[] names = new int[MOST_HOURS];
        final boolean[] wasted = new boolean[MOST_HOURS];

        boolean has(int hour) {
            return hour >= 0 && hour < count;
        }

        void clear() {
            count = 0;
            wasteGrams = 0;
            putIn = 0;
        }

        void add(Glass glass, int name, boolean isWaste) {
            if (count >= MOST_HOURS) {
                return;
            }
            System.arraycopy(glass.things, 0, things, count * THINGS, THINGS);
            System.arraycopy(glass.leads, 0, leads, count * MOST_FEEDS, MOST_FEEDS);
            grams[count] = glass.grams;
            names[count] = name;
            wasted[count] = isWaste;
            count++;
            // as much comes in as goes out
            putIn += glass.grams;
            if (isWaste) {
                wasteGrams += glass.grams;
            }
        }
    }

    /** Told hours: hours that pass in a copy of the tank. */
    private static final class Forecast {
        private final Tank tank;
        private final Colours colours;
        private final Charge plain;
        private final Charge dosed;
        private final Tank trial;
        private final Glass glass = new Glass();

        Forecast(Tank tank, Colours colours, Charge plain, Charge dosed, Tank trial) {
            this.tank = tank;
            this.colours = colours;
            this.plain = plain;
            this.dosed = dosed;
            this.trial = trial;
        }

        int firstHour(int c) {
            plain.measure(tank.pulled, NONE, 0);
            return firstHourWithDose(c, 0, TOLD_HOURS);
        }

        int hoursWithoutName() {
            plain.measure(tank.pulled, NONE, 0);
            trial.copy(tank);
            int nameless = 0;
            for (int hour = 1; hour <= TOLD_HOURS; hour++) {
                passHour(plain);
                if (colours.nameOf(glass) == NONE) {
                    nameless++;
                }
            }
            return nameless;
        }

        int bestDose(int c, int tint) {
            int best = firstHour(c);
            int answer = 100000 * best;
            for (int s = DOSE_STEP; s <= MOST_DOSE; s += DOSE_STEP) {
                dosed.measure(tank.pulled, tint, s);
                for (int k = 1; k <= MOST_DOSE_HOURS; k++) {
                    // only an earlier hour: of several doses the one tried first is due
                    int limit = best == 0 ? TOLD_HOURS : best - 1;
                    int hour = firstHourWithDose(c, k, limit);
                    if (hour != 0) {
                        best = hour;
                        answer = 100000 * hour + 100 * s + k;
                    }
                }
            }
            return answer;
        }

        /** The first hour up to a limit whose glass is of a colour, or 0; the first hours are dosed. */
        private int firstHourWithDose(int c, int doseHours, int limit) {
            trial.copy(tank);
            for (int hour = 1; hour <= limit; hour++) {
                passHour(hour <= doseHours ? dosed : plain);
                if (colours.fits(c, glass)) {
                    return hour;
                }
                // once an undosed hour changes nothing, all later ones are like it
                if (trial.isStill && hour > doseHours) {
                    return 0;
                }
            }
            return 0;
        }

        private void passHour(Charge charge) {
            trial.pass(charge);
            glass.read(trial);
        }
    }

    /** The hours that changes take, and the ring that was told latest. */
    private static final class Ring {
        final int[][] changes = new int[MOST_COLOURS][MOST_COLOURS];
        final int[] latest = new int[MOST_COLOURS];
        int latestSize;
        private final int[] order = new int[MOST_COLOURS];

        int leastSum(int set) {
            int size = gather(set);
            int best = sumOfOrder(size);
            keepOrder(size);
            boolean more = advance(size);
            for (int i = 0; i < MOST_ORDERS && more; i++) {
                int sum = sumOfOrder(size);
                // only a lesser sum: of several orders the one tried first is due
                if (sum < best) {
                    best = sum;
                    keepOrder(size);
                }
                more = advance(size);
            }
            return best;
        }

        private int gather(int set) {
            int size = 0;
            for (int c = 0; c < MOST_COLOURS; c++) {
                if ((set >> c & 1) == 1) {
                    order[size] = c;
                    size++;
                }
            }
            return size;
        }

        private int sumOfOrder(int size) {
            int sum = 0;
            for (int i = 0; i < size; i++) {
                int to = i + 1 < size ? order[i + 1] : order[0];
                sum += changes[order[i]][to];
            }
            return sum;
        }

        private void keepOrder(int size) {
            System.arraycopy(order, 0, latest, 0, size);
            latestSize = size;
        }

        /** To the next greater order that begins with the same colour, or false behind the last. */
        private boolean advance(int size) {
            int i = size - 2;
            while (i >= 1 && order[i] > order[i + 1]) {
                i--;
            }
            if (i < 1) {
                return false;
            }
            int j = size - 1;
            while (j > i && order[j] < order[i]) {
                j--;
            }
            swap(i, j);
            for (int low = i + 1, high = size - 1; low < high; low++, high--) {
                swap(low, high);
            }
            return true;
        }

        private void swap(int i, int j) {
            int kept = order[i];
            order[i] = order[j];
            order[j] = kept;
        }
    }
}
