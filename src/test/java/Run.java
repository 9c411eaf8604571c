import java.util.ArrayList;
import java.util.Arrays;
import java.util.List;

/**
 * A run of calls on a new object. The calls are kept, so that a second object
 * can be brought to the same state and looked at: the document promises
 * nothing about an object after 512 calls, and to look takes many.
 */
final class Run {
    static final int NO = -1000000000;
    static final int MOST_CALLS = 512;

    private final Checks checks;
    private final GlassTank x = new GlassTank();
    private final List<Integer> calls = new ArrayList<>();
    private final List<int[]> arguments = new ArrayList<>();

    Run(Checks checks) {
        this.checks = checks;
    }

    int ask(String name, int... a) {
        int call = Calls.number(name);
        if (a.length != Calls.SIZES[call] || calls.size() == MOST_CALLS) {
            throw new IllegalStateException("call " + (calls.size() + 1) + " of a run, " + name + " of " + a.length);
        }
        calls.add(call);
        arguments.add(a);
        return Calls.on(x, call, a);
    }

    /** A call that leads to what is tested: it must not be refused. */
    Run set(String name, int... a) {
        checks.holds(Calls.text(Calls.number(name), a) + " is not refused", ask(name, a) != NO);
        return this;
    }

    Run due(int want, String name, int... a) {
        checks.due(Calls.text(Calls.number(name), a), ask(name, a), want);
        return this;
    }

    /** The answers for 0, 1, 2 and so on as the last argument, behind the first ones. */
    Run dues(int[] wants, String name, int... first) {
        for (int i = 0; i < wants.length; i++) {
            int[] a = Arrays.copyOf(first, first.length + 1);
            a[first.length] = i;
            due(wants[i], name, a);
        }
        return this;
    }

    /** The answer is due, and the call changes nothing that can be seen. */
    Run keeps(int want, String name, int... a) {
        String before = Snapshot.of(again());
        due(want, name, a);
        checks.due("what is there after " + Calls.text(Calls.number(name), a), Snapshot.of(again()), before);
        return this;
    }

    /** The answer is NO, and nothing has changed. */
    Run refused(String name, int... a) {
        return keeps(NO, name, a);
    }

    /** The object itself, for tests that go beyond what the document promises. */
    GlassTank object() {
        return x;
    }

    int callCount() {
        return calls.size();
    }

    private Run again() {
        Run other = new Run(checks);
        for (int i = 0; i < calls.size(); i++) {
            other.ask(Calls.NAMES[calls.get(i)], arguments.get(i));
        }
        return other;
    }
}
