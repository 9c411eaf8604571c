/** All that can be seen of an object, as a text: two texts differ if something has changed. */
final class Snapshot {
    private final Run x;
    private final StringBuilder text = new StringBuilder();

    private Snapshot(Run x) {
        this.x = x;
    }

    /** Uses the run up: what a call sets is seen by making it, and is made good again; that comes last. */
    static String of(Run x) {
        Snapshot one = new Snapshot(x);
        one.part("told");
        for (int what = 0; what < 7; what++) {
            one.see("told", what);
        }
        one.part("ring");
        for (int k = 0; k < 7; k++) {
            one.see("next", k);
        }
        one.hours();
        one.feeds();
        one.tank();
        one.colours();
        return one.text.toString();
    }

    private void part(String name) {
        text.append("; ").append(name);
    }

    private void see(String name, int... a) {
        text.append(' ').append(x.ask(name, a));
    }

    /** What a call that answers what was before has set; its last argument is what it sets. */
    private void seeSet(String name, int... a) {
        int was = x.ask(name, a);
        text.append(' ').append(was);
        if (was != Run.NO) {
            a[a.length - 1] = was;
            x.ask(name, a);
        }
    }

    private void feeds() {
        int count = x.ask("told", 0);
        for (int f = 0; f < count; f++) {
            part("feed");
            for (int what = 0; what < 9; what++) {
                see("of", f, what);
            }
            seeSet("share", f, 0);
        }
    }

    private void tank() {
        part("pull");
        seeSet("pull", 1);
        int feeds = x.ask("told", 0);
        int cells = x.ask("told", 1);
        for (int c = 0; c < cells; c++) {
            part("cell");
            for (int f = 0; f < feeds; f++) {
                for (int t = 0; t < 4; t++) {
                    see("cell", c, f, t);
                }
            }
        }
    }

    private void colours() {
        part("wanted");
        seeSet("want", -1);
        see("between");
        int count = x.ask("told", 2);
        for (int c = 0; c < count; c++) {
            part("colour");
            see("sure", c);
            see("when", c);
            for (int d = 0; d < count; d++) {
                if (c != d) {
                    seeSet("change", c, d, 0);
                }
            }
        }
    }

    /** Of many hours the first and the last ones. */
    private void hours() {
        int feeds = x.ask("told", 0);
        int count = x.ask("told", 3);
        for (int hour = 0; hour < count; hour++) {
            if (hour >= 3 && hour < count - 3) {
                continue;
            }
            part("hour");
            for (int what = 0; what < 7; what++) {
                see("glass", hour, what);
            }
            for (int f = 0; f < feeds; f++) {
                see("lead", hour, f);
            }
        }
    }
}
