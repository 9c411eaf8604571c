import java.io.IOException;
import java.lang.management.ManagementFactory;
import java.lang.reflect.Constructor;
import java.lang.reflect.Field;
import java.lang.reflect.Method;
import java.lang.reflect.Modifier;
import java.nio.file.Files;
import java.nio.file.Path;
import java.util.Arrays;
import java.util.Random;
import java.util.Set;
import java.util.TreeSet;
import java.util.regex.Matcher;
import java.util.regex.Pattern;
import java.util.stream.Collectors;

/** The rules of LANGUAGE.md that a test can see, and that no call throws or makes objects. */
public final class RulesTest {
    private static final Checks checks = new Checks("RulesTest");

    public static void main(String[] args) throws IOException {
        face();
        nestedClasses();
        source(Files.readString(Path.of(args.length > 0 ? args[0] : "src/main/java/GlassTank.java")));
        noCallThrows();
        noCallMakesObjects();
        checks.end();
    }

    private static void face() {
        Class<GlassTank> type = GlassTank.class;
        checks.holds("the class is public and final",
                Modifier.isPublic(type.getModifiers()) && Modifier.isFinal(type.getModifiers()));
        Set<String> names = new TreeSet<>();
        for (Method method : type.getDeclaredMethods()) {
            if (Modifier.isPrivate(method.getModifiers())) {
                checks.holds("no private method is named " + method.getName(),
                        !Arrays.asList(Calls.NAMES).contains(method.getName()));
                continue;
            }
            names.add(method.getName());
            checks.holds(method + " is public, of the object, int of ints",
                    Modifier.isPublic(method.getModifiers()) && !Modifier.isStatic(method.getModifiers())
                            && method.getReturnType() == int.class
                            && Arrays.stream(method.getParameterTypes()).allMatch(one -> one == int.class));
            checks.due("parameters of " + method.getName(), method.getParameterCount(),
                    Calls.SIZES[Calls.number(method.getName())]);
        }
        checks.due("the methods", names.toString(), new TreeSet<>(Arrays.asList(Calls.NAMES)).toString());
        Constructor<?>[] constructors = type.getDeclaredConstructors();
        checks.holds("one public constructor without parameters", constructors.length == 1
                && Modifier.isPublic(constructors[0].getModifiers()) && constructors[0].getParameterCount() == 0);
        for (Field field : type.getDeclaredFields()) {
            checks.holds(field.getName() + " is private, or NO",
                    Modifier.isPrivate(field.getModifiers()) || field.getName().equals("NO"));
            checks.holds(field.getName() + " is final if it is static",
                    !Modifier.isStatic(field.getModifiers()) || Modifier.isFinal(field.getModifiers()));
        }
        checks.due("NO", GlassTank.NO, -1000000000);
    }

    private static void nestedClasses() {
        Class<?>[] nested = GlassTank.class.getDeclaredClasses();
        checks.holds("at most twelve classes", nested.length + 1 <= 12);
        for (Class<?> one : nested) {
            checks.holds(one + " is static", Modifier.isStatic(one.getModifiers()));
            checks.holds(one + " is not public", !Modifier.isPublic(one.getModifiers())
                    && !Modifier.isProtected(one.getModifiers()));
            for (Method method : one.getDeclaredMethods()) {
                checks.holds(method + " has no name of the face and at most seven parameters",
                        !Arrays.asList(Calls.NAMES).contains(method.getName()) && method.getParameterCount() <= 7);
            }
        }
    }

    private static void source(String text) {
        String code = text.replaceAll("(?s)/\\*.*?\\*/", "").replaceAll("//[^\n]*", "");
        String banned = "throw|throws|try|catch|synchronized|assert|import|package|native|volatile|double|float|"
                + "Exact|hashCode|toString|Object|Random|Thread|Clock|Files|static \\{|->|::";
        Matcher found = Pattern.compile(banned).matcher(code);
        checks.due("words outside LANGUAGE.md", found.results().map(one -> one.group())
                .collect(Collectors.joining(" ")), "");
        checks.holds("characters 0 to 255 alone", text.chars().allMatch(one -> one < 256));
        checks.holds("arrays are only made in fields", Pattern.compile("= new int\\[").matcher(code).results().count()
                == Pattern.compile("(?m)^ *(private )?final int\\[\\]+(\\[\\])? \\w+ = new int\\[").matcher(code)
                .results().count());
    }

    private static void noCallThrows() {
        int[] edges = {Integer.MIN_VALUE, -7, -1, 0, 1, 2, 3, 5, 6, 7, 8, 9, 50, 100, 1000, Integer.MAX_VALUE};
        Random random = new Random(7);
        for (int run = 0; run < 300; run++) {
            GlassTank x = run % 3 == 0 ? new GlassTank() : Sample.running(checks).object();
            for (int i = 0; i < 512; i++) {
                int call = random.nextInt(Calls.NAMES.length);
                int[] a = new int[7];
                for (int j = 0; j < 7; j++) {
                    a[j] = edges[random.nextInt(edges.length)];
                }
                try {
                    Calls.on(x, call, a);
                } catch (RuntimeException thrown) {
                    checks.due(Calls.text(call, a), thrown.toString(), "an answer");
                }
            }
        }
        checks.holds("no call threw", !checks.isWrong());
    }

    /** All calls of a run live in one room, so none may use it up. */
    private static void noCallMakesObjects() {
        com.sun.management.ThreadMXBean bean =
                (com.sun.management.ThreadMXBean) ManagementFactory.getThreadMXBean();
        GlassTank x = Sample.running(checks).object();
        for (int i = 0; i < 200; i++) {
            everyCall(x);
        }
        long thread = Thread.currentThread().getId();
        long before = bean.getThreadAllocatedBytes(thread);
        for (int i = 0; i < 200; i++) {
            everyCall(x);
        }
        long made = bean.getThreadAllocatedBytes(thread) - before;
        checks.holds("4800 calls make next to no objects, but made " + made + " bytes", made < 50000);
    }

    private static void everyCall(GlassTank x) {
        x.feed(0, 1, 1, 1, 1, 0, 0);
        x.stock(0, 100);
        x.of(0, 8);
        x.tank(3, 1000, 100, 0);
        x.pull(90);
        x.cell(0, -1, -1);
        x.share(0, 900);
        x.share(1, 100);
        x.mix();
        x.colour();
        x.span(0, 0, 0, 1000);
        x.sure(0);
        x.cheapest(1);
        x.want(1);
        x.hours(5);
        x.glass(0, 4);
        x.lead(0, 0);
        x.when(0);
        x.between();
        x.dose(2, 1);
        x.change(0, 1, 3);
        x.ring(7);
        x.next(0);
        x.told(6);
    }
}
