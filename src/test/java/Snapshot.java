/** All that can be seen of a GlassTank, as a text: what two calls of it tell differs if something has changed. */
final class Snapshot {
    private Snapshot() {
    }

    static String of(GlassTank x) {
        StringBuilder text = new StringBuilder();
        for (int what = 0; what < 7; what++) {
            text.append(x.told(what)).append(' ');
        }
        feeds(x, text.append("; feeds "));
        tank(x, text.append("; tank "));
        colours(x, text.append("; colours "));
        hours(x, text.append("; hours "));
        for (int k = 0; k < 7; k++) {
            text.append(x.next(k)).append(' ');
        }
        return text.toString();
    }

    private static void feeds(GlassTank x, StringBuilder text) {
        for (int f = 0; f < x.told(0); f++) {
            for (int what = 0; what < 9; what++) {
                text.append(x.of(f, what)).append(' ');
            }
            int toCome = x.share(f, 0);
            x.share(f, toCome);
            text.append(toCome).append(", ");
        }
    }

    private static void tank(GlassTank x, StringBuilder text) {
        int pull = x.pull(1);
        x.pull(pull);
        text.append(pull).append(' ');
        for (int c = 0; c < x.told(1); c++) {
            for (int f = -1; f < x.told(0); f++) {
                for (int t = -1; t < 4; t++) {
                    text.append(x.cell(c, f, t)).append(' ');
                }
            }
        }
    }

    private static void colours(GlassTank x, StringBuilder text) {
        int wanted = x.want(-1);
        x.want(wanted);
        text.append(wanted).append(' ').append(x.between()).append(' ');
        for (int c = 0; c < x.told(2); c++) {
            text.append(x.sure(c)).append(' ').append(x.when(c)).append(' ');
            for (int d = 0; d < x.told(2); d++) {
                int took = x.change(c, d, 0);
                x.change(c, d, took);
                text.append(took).append(' ');
            }
        }
    }

    private static void hours(GlassTank x, StringBuilder text) {
        for (int hour = 0; hour < x.told(3); hour++) {
            for (int what = 0; what < 7; what++) {
                text.append(x.glass(hour, what)).append(' ');
            }
            for (int f = 0; f < x.told(0); f++) {
                text.append(x.lead(hour, f)).append(' ');
            }
        }
    }
}
