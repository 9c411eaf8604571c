/** The calls of the face by number, so that a run of calls can be kept, made again and printed. */
final class Calls {
    static final String[] NAMES = {"feed", "stock", "of", "tank", "pull", "cell", "share", "mix", "colour",
        "span", "sure", "cheapest", "want", "hours", "glass", "lead", "when", "between", "dose", "change",
        "ring", "next", "told"};
    static final int[] SIZES = {7, 2, 2, 4, 1, 3, 2, 0, 0, 4, 1, 1, 1, 1, 2, 2, 1, 0, 2, 3, 1, 1, 1};

    private Calls() {
    }

    static int number(String name) {
        for (int i = 0; i < NAMES.length; i++) {
            if (NAMES[i].equals(name)) {
                return i;
            }
        }
        throw new IllegalArgumentException(name);
    }

    static String text(int call, int[] a) {
        StringBuilder text = new StringBuilder(NAMES[call]).append('(');
        for (int i = 0; i < SIZES[call]; i++) {
            text.append(i == 0 ? "" : ", ").append(a[i]);
        }
        return text.append(')').toString();
    }

    static int on(GlassTank x, int call, int[] a) {
        switch (NAMES[call]) {
            case "feed": return x.feed(a[0], a[1], a[2], a[3], a[4], a[5], a[6]);
            case "stock": return x.stock(a[0], a[1]);
            case "of": return x.of(a[0], a[1]);
            case "tank": return x.tank(a[0], a[1], a[2], a[3]);
            case "pull": return x.pull(a[0]);
            case "cell": return x.cell(a[0], a[1], a[2]);
            case "share": return x.share(a[0], a[1]);
            case "mix": return x.mix();
            case "colour": return x.colour();
            case "span": return x.span(a[0], a[1], a[2], a[3]);
            case "sure": return x.sure(a[0]);
            case "cheapest": return x.cheapest(a[0]);
            case "want": return x.want(a[0]);
            case "hours": return x.hours(a[0]);
            case "glass": return x.glass(a[0], a[1]);
            case "lead": return x.lead(a[0], a[1]);
            case "when": return x.when(a[0]);
            case "between": return x.between();
            case "dose": return x.dose(a[0], a[1]);
            case "change": return x.change(a[0], a[1], a[2]);
            case "ring": return x.ring(a[0]);
            case "next": return x.next(a[0]);
            default: return x.told(a[0]);
        }
    }

    static int on(PlainTank x, int call, int[] a) {
        switch (NAMES[call]) {
            case "feed": return x.feed(a[0], a[1], a[2], a[3], a[4], a[5], a[6]);
            case "stock": return x.stock(a[0], a[1]);
            case "of": return x.of(a[0], a[1]);
            case "tank": return x.tank(a[0], a[1], a[2], a[3]);
            case "pull": return x.pull(a[0]);
            case "cell": return x.cell(a[0], a[1], a[2]);
            case "share": return x.share(a[0], a[1]);
            case "mix": return x.mix();
            case "colour": return x.colour();
            case "span": return x.span(a[0], a[1], a[2], a[3]);
            case "sure": return x.sure(a[0]);
            case "cheapest": return x.cheapest(a[0]);
            case "want": return x.want(a[0]);
            case "hours": return x.hours(a[0]);
            case "glass": return x.glass(a[0], a[1]);
            case "lead": return x.lead(a[0], a[1]);
            case "when": return x.when(a[0]);
            case "between": return x.between();
            case "dose": return x.dose(a[0], a[1]);
            case "change": return x.change(a[0], a[1], a[2]);
            case "ring": return x.ring(a[0]);
            case "next": return x.next(a[0]);
            default: return x.told(a[0]);
        }
    }
}
