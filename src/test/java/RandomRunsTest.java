import java.util.ArrayList;
import java.util.Arrays;
import java.util.List;
import java.util.Random;

/** Runs of random calls, always the same ones, on GlassTank and on the document's plain reading. */
public final class RandomRunsTest {
    private static final int[] EDGES = {Integer.MIN_VALUE, -1000000000, -2, -1, 0, 1, 2, 3, 4, 5, 6, 7, 8, 9, 10, 49,
        50, 51, 99, 100, 101, 399, 400, 999, 1000, 1001, 9999, 10000, 10001, 99999, 100000, 100001, 9999999,
        10000000, 10000001, 1 << 30, Integer.MAX_VALUE};

    private final Random random;
    private final boolean great;

    private RandomRunsTest(long seed) {
        random = new Random(seed);
        great = random.nextInt(4) == 0;
    }

    public static void main(String[] args) {
        int runs = args.length > 0 ? Integer.parseInt(args[0]) : 150;
        int from = args.length > 1 ? Integer.parseInt(args[1]) : 1;
        Checks checks = new Checks("RandomRunsTest");
        for (int seed = from; seed < from + runs && !checks.isWrong(); seed++) {
            new RandomRunsTest(seed).run(seed, checks);
        }
        checks.end();
    }

    private void run(int seed, Checks checks) {
        GlassTank x = new GlassTank();
        PlainTank y = new PlainTank();
        List<String> told = new ArrayList<>();
        // the plain reading is slow with doses
        int doses = 0;
        List<int[]> first = seed % 2 == 0 ? changeOfColour() : List.of();
        int calls = seed % 10 == 0 ? Run.MOST_CALLS : 200;
        for (int i = 0; i < calls; i++) {
            String name = i < first.size() ? Calls.NAMES[first.get(i)[0]] : nameOfCall(first.isEmpty() ? i : i + 30);
            if (name.equals("dose") && ++doses > 4) {
                name = "hours";
            }
            int call = Calls.number(name);
            // by what the plain reading holds: the object has no calls but the run's own
            int[] a = i < first.size() ? Arrays.copyOfRange(first.get(i), 1, first.get(i).length) : arguments(name, y);
            int got = Calls.on(x, call, a);
            told.add(Calls.text(call, a) + " " + got);
            checks.due("run " + seed + ", call " + i + ": " + Calls.text(call, a), got, Calls.on(y, call, a));
            if (checks.isWrong()) {
                told.forEach(System.out::println);
                return;
            }
        }
    }

    private static void put(List<int[]> calls, String name, int... a) {
        int[] call = new int[a.length + 1];
        call[0] = Calls.number(name);
        System.arraycopy(a, 0, call, 1, a.length);
        calls.add(call);
    }

    /** Calls up to a dose that is worth its while: a tank of sand, and a mix for a colour with some tint. */
    private List<int[]> changeOfColour() {
        List<int[]> calls = new ArrayList<>();
        int iron = below(30);
        int[] tint = {100 + below(500), 0, 0, 0};
        tint[2 + below(2)] = 1000 - tint[0];
        put(calls, "feed", 0, 700, 300 - iron, iron, 0, 0, below(100));
        put(calls, "feed", 2, tint[0], tint[1], tint[2], tint[3], 0, below(1000));
        put(calls, "feed", 3, 690, 290, 15, 5, below(40), below(20));
        put(calls, "feed", 1, 600, 300, 50, 50, below(40), below(20));
        for (int f = 0; f < 4; f++) {
            put(calls, "stock", f, 2000 + below(200000));
        }
        int w = great ? 100 + below(99901) : 100 + below(2000);
        put(calls, "tank", 2 + below(5), w, Math.max(1, w / (2 + below(15)) - below(7)), below(2) * 2);
        int s = 50 + below(200);
        int own = below(200);
        put(calls, "share", 0, 1000 - s - own);
        put(calls, "share", 1, s);
        put(calls, "share", 2 + below(2), own);
        put(calls, "mix");
        int thing = tint[2] > 0 ? 2 : 3;
        int target = s * tint[thing] / 1000;
        put(calls, "colour");
        put(calls, "span", 0, thing, 0, target / 2);
        put(calls, "colour");
        put(calls, "span", 1, thing, Math.max(0, target - 1 - below(20)), Math.min(1000, target + below(40)));
        put(calls, "want", below(3) - 1);
        put(calls, "dose", 1, 1);
        put(calls, "between");
        put(calls, "hours", 1 + below(30));
        put(calls, "dose", below(2), 1);
        return calls;
    }

    private String nameOfCall(int i) {
        if (i < 30) {
            String[] first = {"feed", "feed", "stock", "stock", "colour", "span", "span", "span", "span", "change"};
            return first[random.nextInt(first.length)];
        }
        if (i < 34) {
            return new String[] {"tank", "share", "cheapest", "mix"}[i - 30];
        }
        if (random.nextInt(3) == 0) {
            String[] often = {"hours", "hours", "mix", "cheapest", "share", "stock", "span", "want", "glass", "lead",
                "cell", "dose", "when", "between"};
            return often[random.nextInt(often.length)];
        }
        String name = Calls.NAMES[random.nextInt(Calls.NAMES.length)];
        // a tank made anew, or a colour without spans, would end most of what a run is about
        boolean rare = name.equals("tank") || name.equals("colour");
        return rare && i > 50 && random.nextInt(4) != 0 ? "hours" : name;
    }

    private int below(int bound) {
        return random.nextInt(Math.max(1, bound));
    }

    private int aFeed(PlainTank y) {
        return below(y.told(0));
    }

    private int aColour(PlainTank y) {
        return below(y.told(2));
    }

    private int[] arguments(String name, PlainTank y) {
        int[] a = likely(name, y);
        if (random.nextInt(12) == 0 && a.length > 0) {
            a[random.nextInt(a.length)] = EDGES[random.nextInt(EDGES.length)];
        } else if (random.nextInt(12) == 0 && a.length > 0) {
            a[random.nextInt(a.length)] += random.nextInt(3) - 1;
        }
        return a;
    }

    private int[] likely(String name, PlainTank y) {
        switch (name) {
            case "feed": return aNewFeed();
            case "stock": return new int[] {aFeed(y), random.nextBoolean() ? below(3000) : below(9000000)};
            case "of": return new int[] {aFeed(y), below(9)};
            case "tank": return aTank(y);
            case "pull": return new int[] {1 + below(great ? 40000 : 300)};
            case "cell": return new int[] {below(y.told(1)), below(y.told(0) + 1) - 1, below(5) - 1};
            case "share": return new int[] {aFeed(y), aShare(y)};
            case "span": return aSpan(y);
            case "sure": case "cheapest": case "when": return new int[] {aColour(y)};
            case "want": return new int[] {below(y.told(2) + 1) - 1};
            case "hours": return new int[] {1 + below(50)};
            case "glass": return new int[] {below(y.told(3)), below(7)};
            case "lead": return new int[] {below(y.told(3)), aFeed(y)};
            case "dose": return new int[] {aColour(y), aTint(y)};
            case "change": return new int[] {aColour(y), aColour(y), random.nextBoolean() ? below(4) : below(1001)};
            case "ring": return new int[] {random.nextInt(6) == 0 ? below(70) : below(1 << y.told(2))};
            case "next": return new int[] {below(8) - 1};
            case "told": return new int[] {below(7)};
            default: return new int[0];
        }
    }

    private int[] aNewFeed() {
        int[] cuts = {0, 0, 0, 0};
        int left = 1000;
        for (int t = 0; t < 3; t++) {
            cuts[t] = random.nextInt(3) == 0 ? 0 : below(left + 1);
            left -= cuts[t];
        }
        cuts[3] = left;
        int kind = random.nextInt(4);
        int doubt = kind % 2 == 1 ? below(101) : 0;
        int price = random.nextBoolean() ? below(4) : below(10001);
        return new int[] {kind, cuts[0], cuts[1], cuts[2], cuts[3], doubt, price};
    }

    private int[] aTank(PlainTank y) {
        int w = great ? 100 + below(99901) : 100 + below(2000);
        int p = random.nextInt(8) == 0 ? w : 1 + below(w / (1 + below(20)));
        return new int[] {2 + below(5), w, p, aFeed(y)};
    }

    /** Often what is missing to 1000, so that mixes come about. */
    private int aShare(PlainTank y) {
        int sum = 0;
        for (int f = 0; f < y.told(0); f++) {
            int s = y.share(f, 0);
            y.share(f, s);
            sum += s;
        }
        return random.nextBoolean() && sum <= 1000 ? 1000 - sum : below(1001);
    }

    private int[] aSpan(PlainTank y) {
        int t = below(4);
        if (random.nextInt(6) == 0 || y.told(0) == 0) {
            int least = below(1001);
            return new int[] {aColour(y), t, least, least + below(1001 - least)};
        }
        int part = below(11);
        int centre = (y.of(aFeed(y), t) * part + y.of(aFeed(y), t) * (10 - part)) / 10;
        int least = Math.max(0, centre - below(120));
        return new int[] {aColour(y), t, least, Math.min(1000, centre + below(120))};
    }

    private int aTint(PlainTank y) {
        int f = aFeed(y);
        for (int i = 0; i < 8 && y.of(f, 4) != 2; i++) {
            f = (f + 1) % Math.max(1, y.told(0));
        }
        return f;
    }
}
