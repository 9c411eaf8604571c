import java.io.IOException;
import java.lang.management.ManagementFactory;
import java.lang.reflect.Array;
import java.lang.reflect.Constructor;
import java.lang.reflect.Field;
import java.lang.reflect.Method;
import java.lang.reflect.Modifier;
import java.nio.file.Files;
import java.nio.file.Path;
import java.util.ArrayList;
import java.util.Arrays;
import java.util.Collections;
import java.util.IdentityHashMap;
import java.util.List;
import java.util.Random;
import java.util.Set;
import java.util.TreeSet;
import java.util.regex.Matcher;
import java.util.regex.Pattern;
import java.util.stream.Collectors;

/** The face, the rules of LANGUAGE.md that a test can see, that no call throws or makes objects, and the room. */
public final class RulesTest {
    private static final Checks checks = new Checks("RulesTest");

    public static void main(String[] args) throws IOException, IllegalAccessException {
        String text = Files.readString(Path.of(args.length > 0 ? args[0] : "src/main/java/GlassTank.java"));
        String code = text.replaceAll("(?s)/\\*.*?\\*/", "").replaceAll("//[^\n]*", "");
        face();
        faceAsWritten(code, Files.readString(Path.of("../shared/DOC.md")));
        nestedClasses();
        source(text, code);
        sizes(code);
        noCallThrows();
        noCallMakesObjects();
        room();
        checks.end();
    }

    /** The public lines of the class are those of the document, in its order. */
    private static void faceAsWritten(String code, String doc) {
        checks.due("the face", publicLines(code), publicLines(doc));
    }

    private static String publicLines(String text) {
        return text.lines().map(String::strip).filter(line -> line.startsWith("public "))
                .map(line -> line.replaceAll(" ?[{;]$", "")).collect(Collectors.joining("\n"));
    }

    private static void face() {
        Class<GlassTank> type = GlassTank.class;
        checks.holds("the class is public and final",
                Modifier.isPublic(type.getModifiers()) && Modifier.isFinal(type.getModifiers()));
        Set<String> names = new TreeSet<>();
        for (Method method : type.getDeclaredMethods()) {
            if (Modifier.isPrivate(method.getModifiers())) {
                checks.holds("no private method is named " + method.getName(),
                        !Arrays.asList(Calls.NAMES).contains(method.getName()));
                continue;
            }
            names.add(method.getName());
            checks.holds(method + " is public, of the object, int of ints",
                    Modifier.isPublic(method.getModifiers()) && !Modifier.isStatic(method.getModifiers())
                            && method.getReturnType() == int.class
                            && Arrays.stream(method.getParameterTypes()).allMatch(one -> one == int.class));
            checks.due("parameters of " + method.getName(), method.getParameterCount(),
                    Calls.SIZES[Calls.number(method.getName())]);
        }
        checks.due("the methods", names.toString(), new TreeSet<>(Arrays.asList(Calls.NAMES)).toString());
        Constructor<?>[] constructors = type.getDeclaredConstructors();
        checks.holds("one public constructor without parameters", constructors.length == 1
                && Modifier.isPublic(constructors[0].getModifiers()) && constructors[0].getParameterCount() == 0);
        for (Field field : type.getDeclaredFields()) {
            checks.holds(field.getName() + " is private, or NO",
                    Modifier.isPrivate(field.getModifiers()) || field.getName().equals("NO"));
            checks.holds(field.getName() + " is final if it is static",
                    !Modifier.isStatic(field.getModifiers()) || Modifier.isFinal(field.getModifiers()));
        }
        checks.due("NO", GlassTank.NO, -1000000000);
    }

    private static void nestedClasses() {
        Class<?>[] nested = GlassTank.class.getDeclaredClasses();
        checks.holds("at most twelve classes", nested.length + 1 <= 12);
        for (Class<?> one : nested) {
            checks.holds(one + " is static", Modifier.isStatic(one.getModifiers()));
            checks.holds(one + " is not public", !Modifier.isPublic(one.getModifiers())
                    && !Modifier.isProtected(one.getModifiers()));
            for (Method method : one.getDeclaredMethods()) {
                checks.holds(method + " has no name of the face and at most seven parameters",
                        !Arrays.asList(Calls.NAMES).contains(method.getName()) && method.getParameterCount() <= 7);
            }
        }
    }

    private static void source(String text, String code) {
        String banned = "throw|throws|try|catch|synchronized|assert|import|package|native|volatile|double|float|"
                + "Exact|hashCode|toString|Object|Random|Thread|Clock|Files|static \\{|->|::";
        Matcher found = Pattern.compile(banned).matcher(code);
        checks.due("words outside LANGUAGE.md", found.results().map(one -> one.group())
                .collect(Collectors.joining(" ")), "");
        checks.holds("characters 0 to 255 alone", text.chars().allMatch(one -> one < 256));
        checks.holds("arrays are only made in fields", Pattern.compile("= new int\\[").matcher(code).results().count()
                == Pattern.compile("(?m)^ *(private )?final int\\[\\]+(\\[\\])? \\w+ = new int\\[").matcher(code)
                .results().count());
        Set<String> library = new TreeSet<>();
        Pattern.compile("\\b[A-Z]\\w*\\.\\w+").matcher(code).results().forEach(one -> library.add(one.group()));
        checks.due("the library that is used", library.toString(), "[Math.max, Math.min, System.arraycopy]");
    }

    /** Rule 11: short methods, few fields. */
    private static void sizes(String code) {
        Matcher method = Pattern.compile("(?ms)^( {4}| {8})(?=\\S)[\\w\\[\\] ]+\\([^;{]*\\) \\{\n.*?^\\1\\}").matcher(code);
        int methods = 0;
        while (method.find()) {
            methods++;
            checks.holds("at most sixty lines: " + method.group().lines().findFirst().orElse(""),
                    method.group().lines().count() <= 60);
        }
        checks.holds("the methods were found", methods > Calls.NAMES.length);
        List<Class<?>> all = new ArrayList<>(List.of(GlassTank.class.getDeclaredClasses()));
        all.add(GlassTank.class);
        for (Class<?> one : all) {
            long fields = Arrays.stream(one.getDeclaredFields())
                    .filter(field -> !Modifier.isStatic(field.getModifiers())).count();
            checks.holds("at most twenty fields: " + one, fields <= 20);
        }
    }

    private static void noCallThrows() {
        int[] edges = {Integer.MIN_VALUE, -7, -1, 0, 1, 2, 3, 5, 6, 7, 8, 9, 50, 100, 1000, Integer.MAX_VALUE};
        Random random = new Random(7);
        int threw = 0;
        for (int run = 0; run < 300; run++) {
            GlassTank x = run % 3 == 0 ? new GlassTank() : Sample.running(checks).object();
            for (int i = 0; i < 512; i++) {
                int call = random.nextInt(Calls.NAMES.length);
                int[] a = new int[7];
                for (int j = 0; j < 7; j++) {
                    a[j] = edges[random.nextInt(edges.length)];
                }
                try {
                    Calls.on(x, call, a);
                } catch (RuntimeException thrown) {
                    threw++;
                    checks.due(Calls.text(call, a), thrown.toString(), "an answer");
                }
            }
        }
        checks.due("calls that threw", threw, 0);
    }

    /** All calls of a run live in one room, so none may use it up. */
    private static void noCallMakesObjects() {
        com.sun.management.ThreadMXBean bean =
                (com.sun.management.ThreadMXBean) ManagementFactory.getThreadMXBean();
        GlassTank x = Sample.running(checks).object();
        for (int i = 0; i < 200; i++) {
            everyCall(x);
        }
        long thread = Thread.currentThread().getId();
        long before = bean.getThreadAllocatedBytes(thread);
        for (int i = 0; i < 200; i++) {
            everyCall(x);
        }
        long made = bean.getThreadAllocatedBytes(thread) - before;
        checks.holds("4800 calls make next to no objects, but made " + made + " bytes", made < 50000);
    }

    /** A new object is small enough that a run could make one for each of its calls. */
    private static void room() throws IllegalAccessException {
        Set<Object> objects = Collections.newSetFromMap(new IdentityHashMap<>());
        long held = heldBy(new GlassTank(), objects);
        checks.holds("objects and arrays of 512 tanks: " + 512L * objects.size(), 512L * objects.size() < 600000);
        checks.holds("fields and elements of 512 tanks: " + 512 * held, 512 * held < 7300000);
    }

    /** Fields and elements of an object and of all that it leads to and that was not seen before. */
    private static long heldBy(Object one, Set<Object> seen) throws IllegalAccessException {
        if (one == null || !seen.add(one)) {
            return 0;
        }
        long held = one.getClass().isArray() ? Array.getLength(one) : 0;
        if (one instanceof Object[] rows) {
            for (Object row : rows) {
                held += heldBy(row, seen);
            }
        }
        for (Field field : one.getClass().getDeclaredFields()) {
            if (!Modifier.isStatic(field.getModifiers())) {
                field.setAccessible(true);
                held += 1 + (field.getType().isPrimitive() ? 0 : heldBy(field.get(one), seen));
            }
        }
        return held;
    }

    private static void everyCall(GlassTank x) {
        x.feed(0, 1, 1, 1, 1, 0, 0);
        x.stock(0, 100);
        x.of(0, 8);
        x.tank(3, 1000, 100, 0);
        x.pull(90);
        x.cell(0, -1, -1);
        x.share(0, 900);
        x.share(1, 100);
        x.mix();
        x.colour();
        x.span(0, 0, 0, 1000);
        x.sure(0);
        x.cheapest(1);
        x.want(1);
        x.hours(5);
        x.glass(0, 4);
        x.lead(0, 0);
        x.when(0);
        x.between();
        x.dose(2, 1);
        x.change(0, 1, 3);
        x.ring(7);
        x.next(0);
        x.told(6);
    }
}
