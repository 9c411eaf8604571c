import java.math.BigInteger;
import java.util.ArrayList;
import java.util.Arrays;
import java.util.List;

/**
 * The document read once more, as literally and slowly as it goes and with the
 * whole Java library: what random runs compare GlassTank with. It shares no
 * code with GlassTank.
 */
final class PlainTank {
    static final int NO = -1000000000;

    private static final class Feed {
        int kind;
        int[] makeUp;
        int doubt;
        int price;
        int stock;
    }

    private static final class Hour {
        int[][] lot;
        int name;
        boolean waste;
        int grams;
    }

    private final List<Feed> feeds = new ArrayList<>();
    private final List<int[][]> colours = new ArrayList<>();
    private final List<Hour> hours = new ArrayList<>();
    private final int[][] changes = new int[6][6];
    private int[] toldShares = new int[8];
    private int[] mix = null;
    private int n = 3;
    private int w = 1000;
    private int p = 100;
    private int[][][] cells = null;
    private int wanted = -1;
    private List<Integer> latestRing = new ArrayList<>();

    static int[] shared(int grams, long... weights) {
        BigInteger all = BigInteger.ZERO;
        for (long weight : weights) {
            all = all.add(BigInteger.valueOf(weight));
        }
        int[] parts = new int[weights.length];
        BigInteger[] rests = new BigInteger[weights.length];
        List<Integer> byRest = new ArrayList<>();
        int left = grams;
        for (int i = 0; i < weights.length; i++) {
            BigInteger[] division = BigInteger.valueOf(grams).multiply(BigInteger.valueOf(weights[i]))
                    .divideAndRemainder(all);
            parts[i] = division[0].intValueExact();
            rests[i] = division[1];
            left -= parts[i];
            byRest.add(i);
        }
        byRest.sort((i, j) -> rests[i].equals(rests[j]) ? Integer.compare(i, j) : rests[j].compareTo(rests[i]));
        for (int i = 0; i < left; i++) {
            parts[byRest.get(i)]++;
        }
        return parts;
    }

    private static int[] sharedByMakeUp(int grams, Feed feed) {
        return shared(grams, feed.makeUp[0], feed.makeUp[1], feed.makeUp[2], feed.makeUp[3]);
    }

    private static int[][] sharedByLot(int grams, int[][] lot) {
        long[] weights = new long[32];
        for (int i = 0; i < 32; i++) {
            weights[i] = lot[i / 4][i % 4];
        }
        int[] parts = shared(grams, weights);
        int[][] out = new int[8][4];
        for (int i = 0; i < 32; i++) {
            out[i / 4][i % 4] = parts[i];
        }
        return out;
    }

    private boolean isFeed(int f) {
        return 0 <= f && f < feeds.size();
    }

    private boolean isColour(int c) {
        return 0 <= c && c < colours.size();
    }

    private static boolean isIn(int x, int from, int to) {
        return from <= x && x <= to;
    }

    int feed(int kind, int a, int b, int c, int d, int doubt, int price) {
        if (!isIn(kind, 0, 3)) {
            return NO;
        }
        long together = 0;
        for (int thousandths : new int[] {a, b, c, d}) {
            if (thousandths < 0) {
                return NO;
            }
            together += thousandths;
        }
        if (together != 1000 || !isIn(doubt, 0, 100) || ((kind == 0 || kind == 2) && doubt != 0)) {
            return NO;
        }
        if (!isIn(price, 0, 10000) || feeds.size() == 8) {
            return NO;
        }
        Feed feed = new Feed();
        feed.kind = kind;
        feed.makeUp = new int[] {a, b, c, d};
        feed.doubt = doubt;
        feed.price = price;
        feeds.add(feed);
        return feeds.size() - 1;
    }

    int stock(int f, int grams) {
        if (!isFeed(f) || grams < 0 || (long) feeds.get(f).stock + grams > 10000000L) {
            return NO;
        }
        return feeds.get(f).stock += grams;
    }

    int of(int f, int what) {
        if (!isFeed(f) || !isIn(what, 0, 8)) {
            return NO;
        }
        Feed feed = feeds.get(f);
        int[] all = {feed.makeUp[0], feed.makeUp[1], feed.makeUp[2], feed.makeUp[3], feed.kind, feed.doubt,
            feed.price, feed.stock, mix == null ? 0 : mix[f]};
        return all[what];
    }

    int tank(int newN, int newW, int newP, int f) {
        if (!isIn(newN, 2, 6) || !isIn(newW, 100, 100000) || !isIn(newP, 1, newW) || !isFeed(f)) {
            return NO;
        }
        n = newN;
        w = newW;
        p = newP;
        cells = new int[n][8][4];
        for (int c = 0; c < n; c++) {
            cells[c][f] = sharedByMakeUp(w, feeds.get(f));
        }
        hours.clear();
        return 1;
    }

    int pull(int newP) {
        if (!isIn(newP, 1, w)) {
            return NO;
        }
        int was = p;
        p = newP;
        return was;
    }

    int cell(int c, int f, int t) {
        if (!isIn(c, 0, n - 1) || !isIn(f, -1, feeds.size() - 1) || !isIn(t, -1, 3) || cells == null) {
            return NO;
        }
        int sum = 0;
        for (int g = 0; g < 8; g++) {
            for (int u = 0; u < 4; u++) {
                sum += (f == -1 || f == g) && (t == -1 || t == u) ? cells[c][g][u] : 0;
            }
        }
        return sum;
    }

    int share(int f, int s) {
        if (!isFeed(f) || !isIn(s, 0, 1000)) {
            return NO;
        }
        int was = toldShares[f];
        toldShares[f] = s;
        return was;
    }

    int mix() {
        if (Arrays.stream(toldShares).sum() != 1000) {
            return NO;
        }
        mix = toldShares.clone();
        return 1;
    }

    int colour() {
        if (colours.size() == 6) {
            return NO;
        }
        colours.add(new int[][] {{0, 1000}, {0, 1000}, {0, 1000}, {0, 1000}});
        return colours.size() - 1;
    }

    int span(int c, int t, int least, int most) {
        if (!isColour(c) || !isIn(t, 0, 3) || !isIn(least, 0, 1000) || !isIn(most, 0, 1000) || least > most) {
            return NO;
        }
        colours.get(c)[t] = new int[] {least, most};
        return 1;
    }

    private boolean isSure(int[] shares, int c) {
        for (int t = 0; t < 4; t++) {
            long low = 0;
            long high = 0;
            for (int f = 0; f < feeds.size(); f++) {
                Feed feed = feeds.get(f);
                low += (long) shares[f] * Math.max(0, feed.makeUp[t] - feed.doubt);
                high += (long) shares[f] * Math.min(1000, feed.makeUp[t] + feed.doubt);
            }
            if (low < colours.get(c)[t][0] * 1000L || high > colours.get(c)[t][1] * 1000L) {
                return false;
            }
        }
        return true;
    }

    int sure(int c) {
        if (!isColour(c) || mix == null) {
            return NO;
        }
        return isSure(mix, c) ? 1 : 0;
    }

    private long cost(int[] shares) {
        long sum = 0;
        for (int f = 0; f < feeds.size(); f++) {
            sum += (long) shares[f] * feeds.get(f).price;
        }
        return sum;
    }

    /** From the last feed to the first and from little to much, so that ties are met in every order. */
    private int[] cheapestFrom(int[] shares, int f, int left, int c, int[] best) {
        if (f == 0) {
            int[] whole = shares.clone();
            whole[0] = left;
            if (!isSure(whole, c)) {
                return best;
            }
            return best == null || isBetter(whole, best) ? whole : best;
        }
        for (int s = 0; s <= left; s += 100) {
            shares[f] = s;
            best = cheapestFrom(shares, f - 1, left - s, c, best);
        }
        shares[f] = 0;
        return best;
    }

    private boolean isBetter(int[] one, int[] other) {
        if (cost(one) != cost(other)) {
            return cost(one) < cost(other);
        }
        int differ = Arrays.mismatch(one, other);
        return differ >= 0 && one[differ] > other[differ];
    }

    int cheapest(int c) {
        if (!isColour(c) || feeds.isEmpty()) {
            return NO;
        }
        int[] best = cheapestFrom(new int[8], feeds.size() - 1, 1000, c, null);
        if (best == null) {
            return NO;
        }
        mix = best.clone();
        toldShares = best.clone();
        return (int) cost(best);
    }

    int want(int c) {
        if (!isIn(c, -1, colours.size() - 1)) {
            return NO;
        }
        int was = wanted;
        wanted = c;
        return was;
    }

    private int[] takenByMix() {
        long[] weights = new long[8];
        for (int f = 0; f < 8; f++) {
            weights[f] = mix[f];
        }
        return shared(p, weights);
    }

    private int[] takenByDose(int tint, int s) {
        long[] weights = new long[8];
        for (int f = 0; f < 8; f++) {
            weights[f] = mix[f] * (1000L - s) + (f == tint ? s * 1000L : 0);
        }
        return shared(p, weights);
    }

    /** Moves an hour in the given cells: the glass. */
    private int[][] hourIn(int[][][] row, int[] taken) {
        int[][][] out = new int[n][][];
        for (int c = 0; c < n; c++) {
            out[c] = sharedByLot(p, row[c]);
        }
        int[][] in = new int[8][4];
        for (int f = 0; f < feeds.size(); f++) {
            in[f] = sharedByMakeUp(taken[f], feeds.get(f));
        }
        for (int c = 0; c < n; c++) {
            int[][] coming = c == 0 ? in : out[c - 1];
            for (int f = 0; f < 8; f++) {
                for (int t = 0; t < 4; t++) {
                    row[c][f][t] += coming[f][t] - out[c][f][t];
                }
            }
        }
        return out[n - 1];
    }

    private static int thingOf(int[][] lot, int t) {
        int sum = 0;
        for (int[] feed : lot) {
            sum += feed[t];
        }
        return sum;
    }

    private boolean isOf(int[][] lot, int c) {
        long g = 0;
        for (int t = 0; t < 4; t++) {
            g += thingOf(lot, t);
        }
        for (int t = 0; t < 4; t++) {
            long thousandfold = 1000L * thingOf(lot, t);
            if (thousandfold < colours.get(c)[t][0] * g || thousandfold > colours.get(c)[t][1] * g) {
                return false;
            }
        }
        return true;
    }

    private int name(int[][] lot) {
        for (int c = 0; c < colours.size(); c++) {
            if (isOf(lot, c)) {
                return c;
            }
        }
        return -1;
    }

    int hours(int count) {
        if (!isIn(count, 1, 50) || cells == null || mix == null || hours.size() + count > 400) {
            return NO;
        }
        for (int gone = 0; gone < count; gone++) {
            int[] taken = takenByMix();
            for (int f = 0; f < feeds.size(); f++) {
                if (feeds.get(f).stock < taken[f]) {
                    return gone;
                }
            }
            for (int f = 0; f < feeds.size(); f++) {
                feeds.get(f).stock -= taken[f];
            }
            Hour hour = new Hour();
            hour.lot = hourIn(cells, taken);
            hour.name = name(hour.lot);
            hour.waste = wanted == -1 || hour.name != wanted;
            hour.grams = p;
            hours.add(hour);
            if (hour.waste) {
                feeds.stream().filter(feed -> feed.kind == 3).findFirst()
                        .ifPresent(feed -> feed.stock = Math.min(10000000, feed.stock + p));
            }
        }
        return count;
    }

    int glass(int hour, int what) {
        if (!isIn(hour, 0, hours.size() - 1) || !isIn(what, 0, 6)) {
            return NO;
        }
        Hour one = hours.get(hour);
        int[] all = {thingOf(one.lot, 0), thingOf(one.lot, 1), thingOf(one.lot, 2), thingOf(one.lot, 3), one.name,
            one.waste ? 1 : 0, one.grams};
        return all[what];
    }

    int lead(int hour, int f) {
        if (!isIn(hour, 0, hours.size() - 1) || !isFeed(f)) {
            return NO;
        }
        return Arrays.stream(hours.get(hour).lot[f]).sum();
    }

    private int[][][] copyOfCells() {
        int[][][] copy = new int[n][8][4];
        for (int c = 0; c < n; c++) {
            for (int f = 0; f < 8; f++) {
                copy[c][f] = cells[c][f].clone();
            }
        }
        return copy;
    }

    private int firstOf(int c, int tint, int s, int k) {
        int[][][] row = copyOfCells();
        for (int hour = 1; hour <= 100; hour++) {
            if (isOf(hourIn(row, hour <= k ? takenByDose(tint, s) : takenByMix()), c)) {
                return hour;
            }
        }
        return 0;
    }

    int when(int c) {
        if (!isColour(c) || cells == null || mix == null) {
            return NO;
        }
        return firstOf(c, 0, 0, 0);
    }

    int between() {
        if (cells == null || mix == null) {
            return NO;
        }
        int[][][] row = copyOfCells();
        int sum = 0;
        for (int hour = 1; hour <= 100; hour++) {
            sum += name(hourIn(row, takenByMix())) == -1 ? 1 : 0;
        }
        return sum;
    }

    int dose(int c, int f) {
        if (!isColour(c) || !isFeed(f) || feeds.get(f).kind != 2 || cells == null || mix == null) {
            return NO;
        }
        int best = Integer.MAX_VALUE;
        for (int s = 0; s <= 500; s += 100) {
            for (int k = s == 0 ? 0 : 1; k <= 10; k++) {
                int hour = firstOf(c, f, s, k);
                if (hour != 0) {
                    best = Math.min(best, 100000 * hour + 100 * s + k);
                }
            }
        }
        return best == Integer.MAX_VALUE ? 0 : best;
    }

    int change(int from, int to, int took) {
        if (!isColour(from) || !isColour(to) || from == to || !isIn(took, 0, 1000)) {
            return NO;
        }
        int was = changes[from][to];
        changes[from][to] = took;
        return was;
    }

    private void rings(List<Integer> ring, int rest, List<List<Integer>> all) {
        if (rest == 0) {
            all.add(new ArrayList<>(ring));
        }
        for (int c = 5; c >= 0; c--) {
            if ((rest & 1 << c) != 0) {
                ring.add(c);
                rings(ring, rest & ~(1 << c), all);
                ring.remove(ring.size() - 1);
            }
        }
    }

    private int sum(List<Integer> ring) {
        int sum = 0;
        for (int i = 0; i < ring.size() && ring.size() > 1; i++) {
            sum += changes[ring.get(i)][ring.get((i + 1) % ring.size())];
        }
        return sum;
    }

    int ring(int set) {
        if (set == 0 || (set & ~((1 << colours.size()) - 1)) != 0) {
            return NO;
        }
        List<List<Integer>> all = new ArrayList<>();
        int least = Integer.numberOfTrailingZeros(set);
        rings(new ArrayList<>(List.of(least)), set & ~(1 << least), all);
        all.sort((one, other) -> sum(one) != sum(other) ? Integer.compare(sum(one), sum(other))
                : one.toString().compareTo(other.toString()));
        latestRing = all.get(0);
        return sum(latestRing);
    }

    int next(int k) {
        return isIn(k, 0, latestRing.size() - 1) ? latestRing.get(k) : -1;
    }

    int told(int what) {
        if (!isIn(what, 0, 6)) {
            return NO;
        }
        int waste = 0;
        int putIn = 0;
        for (Hour hour : hours) {
            waste += hour.waste ? hour.grams : 0;
            putIn += hour.grams;
        }
        int[] all = {feeds.size(), n, colours.size(), hours.size(), waste, putIn, cells == null ? 0 : n * w};
        return all[what];
    }
}
