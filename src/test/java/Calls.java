import java.lang.reflect.InvocationTargetException;

/** The calls of the face by number, so that a run of calls can be kept, made again and printed. */
final class Calls {
    static final String[] NAMES = {"feed", "stock", "of", "tank", "pull", "cell", "share", "mix", "colour",
        "span", "sure", "cheapest", "want", "hours", "glass", "lead", "when", "between", "dose", "change",
        "ring", "next", "told"};
    static final int[] SIZES = {7, 2, 2, 4, 1, 3, 2, 0, 0, 4, 1, 1, 1, 1, 2, 2, 1, 0, 2, 3, 1, 1, 1};

    private Calls() {
    }

    static int number(String name) {
        for (int i = 0; i < NAMES.length; i++) {
            if (NAMES[i].equals(name)) {
                return i;
            }
        }
        throw new IllegalArgumentException(name);
    }

    static String text(int call, int[] a) {
        StringBuilder text = new StringBuilder(NAMES[call]).append('(');
        for (int i = 0; i < SIZES[call]; i++) {
            text.append(i == 0 ? "" : ", ").append(a[i]);
        }
        return text.append(')').toString();
    }

    /** Makes the call on a GlassTank or a PlainTank, with as many arguments as it takes. */
    static int on(Object x, int call, int[] a) {
        Class<?>[] types = new Class<?>[SIZES[call]];
        Object[] arguments = new Object[SIZES[call]];
        for (int i = 0; i < SIZES[call]; i++) {
            types[i] = int.class;
            arguments[i] = a[i];
        }
        try {
            return (int) x.getClass().getDeclaredMethod(NAMES[call], types).invoke(x, arguments);
        } catch (InvocationTargetException thrown) {
            throw new IllegalStateException(text(call, a) + " threw " + thrown.getCause(), thrown);
        } catch (ReflectiveOperationException missing) {
            throw new IllegalStateException("there is no " + text(call, a), missing);
        }
    }
}
