import java.lang.management.ManagementFactory;
import java.lang.reflect.Field;
import java.lang.reflect.Member;
import java.lang.reflect.Method;
import java.lang.reflect.Modifier;
import java.nio.file.Files;
import java.nio.file.Path;
import java.util.ArrayList;
import java.util.Arrays;
import java.util.List;
import java.util.Set;
import java.util.TreeSet;
import java.util.regex.Matcher;
import java.util.regex.Pattern;

/** The public face, what can be seen of LANGUAGE.md, and that no call throws or makes anything. */
public final class FaceTest {
    public static void main(String[] args) throws Exception {
        publicFace();
        classesInside();
        source();
        anyNumbers();
        makesNothing();
        Due.end();
    }

    private static boolean isPrivate(Member m) {
        return Modifier.isPrivate(m.getModifiers()) || m.isSynthetic();
    }

    private static void publicFace() throws Exception {
        Class<?> c = LosslessFabric.class;
        Due.is("public and final", c.getModifiers(), Modifier.PUBLIC | Modifier.FINAL);
        Set<String> found = new TreeSet<>();
        for (Method m : c.getDeclaredMethods()) {
            if (!isPrivate(m)) {
                StringBuilder s = new StringBuilder(m.getReturnType().getName()).append(' ').append(m.getName()).append('(');
                for (int i = 0; i < m.getParameterCount(); i++) {
                    s.append(i > 0 ? "," : "").append(m.getParameterTypes()[i].getName());
                }
                found.add(s.append(')').toString());
                Due.is(m.getName() + " is public alone", m.getModifiers(), Modifier.PUBLIC);
            }
        }
        Set<String> wanted = faceOfTheDocument();
        Due.is("methods of the document", wanted.size(), 35);
        Due.is("the methods: " + found, found.equals(wanted), true);
        Due.is("one constructor", c.getDeclaredConstructors().length, 1);
        Due.is("it is public", c.getConstructor().getModifiers(), Modifier.PUBLIC);
        Method link = c.getMethod("link", int.class, int.class);
        Due.is("link throws", Arrays.asList(link.getExceptionTypes()).equals(
            Arrays.asList(IndexOutOfBoundsException.class, java.util.NoSuchElementException.class)), true);
        for (Field f : c.getDeclaredFields()) {
            Due.is("field " + f.getName(), isPrivate(f), !f.getName().equals("NONE"));
        }
        Due.is("NONE", c.getField("NONE").getInt(null), -1);
        Set<String> names = new TreeSet<>();
        for (String call : wanted) {
            names.add(call.replaceAll("^\\w+ (\\w+)\\(.*", "$1"));
        }
        for (Class<?> k : classes()) {
            for (Method m : k.getDeclaredMethods()) {
                boolean ofTheFace = k == c && Modifier.isPublic(m.getModifiers());
                Due.is("name of " + k.getName() + "." + m.getName(), !ofTheFace && names.contains(m.getName()), false);
                Due.is("seven parameters at most", m.getParameterCount() <= 7, true);
            }
        }
    }

    /** The methods that the document writes out, without the names of what they take. */
    private static Set<String> faceOfTheDocument() throws Exception {
        String doc = Files.readString(Path.of("../shared/DOC.md"));
        String face = doc.substring(doc.indexOf("## The public face"), doc.indexOf("## Terms"));
        Matcher method = Pattern.compile("public (\\w+ \\w+)\\(([^)]*)\\)").matcher(face);
        Set<String> all = new TreeSet<>();
        while (method.find()) {
            all.add(method.group(1) + "(" + method.group(2).replaceAll("(\\w+) \\w+", "$1").replace(" ", "") + ")");
        }
        return all;
    }

    private static List<Class<?>> classes() {
        List<Class<?>> all = new ArrayList<>(Arrays.asList(LosslessFabric.class.getDeclaredClasses()));
        all.add(LosslessFabric.class);
        return all;
    }

    private static void classesInside() {
        Due.is("some twelve classes", classes().size() <= 12, true);
        for (Class<?> k : classes()) {
            int fields = 0;
            for (Field f : k.getDeclaredFields()) {
                boolean isStatic = Modifier.isStatic(f.getModifiers());
                Due.is("static is final: " + f.getName(), isStatic && !Modifier.isFinal(f.getModifiers()), false);
                fields += isStatic || f.isSynthetic() ? 0 : 1;
            }
            Due.is("some twenty fields: " + k.getName(), fields <= 20, true);
            Due.is("static inside: " + k.getName(), k == LosslessFabric.class || Modifier.isStatic(k.getModifiers()), true);
            Due.is("not public inside: " + k.getName(), k != LosslessFabric.class && Modifier.isPublic(k.getModifiers()), false);
        }
    }

    private static void source() throws Exception {
        Path file = Path.of("src/main/java/LosslessFabric.java");
        Due.is("run from the project's folder", Files.exists(file), true);
        String text = Files.readString(file);
        for (char sign : text.toCharArray()) {
            Due.is("signs are plain", sign == 10 || sign >= 32 && sign < 127, true);
        }
        String code = text.replaceAll("(?s)/\\*.*?\\*/", "").replaceAll("//[^\n]*", "");
        Due.is("one import", code.split("import ", -1).length, 2);
        Due.is("no package", code.contains("package "), false);
        String[] banned = {"catch", "try", "finally", "synchronized", "assert", "->", "::", "Exact", "instanceof", "@",
            "getMessage", "hashCode", "equals(", "toString", "null", "static {", "System.out", "double", "float"};
        for (String word : banned) {
            Due.is("without " + word, code.contains(word), false);
        }
        Matcher library = Pattern.compile("\\b(Math|Integer|Long|System|Arrays|String)\\.(\\w+)").matcher(code);
        Set<String> allowed = Set.of("Math.min", "Math.max", "System.arraycopy", "Integer.MAX_VALUE", "Integer.MIN_VALUE");
        while (library.find()) {
            Due.is("library: " + library.group(), allowed.contains(library.group()), true);
        }
        int lines = 0;
        boolean inMethod = false;
        for (String line : text.split("\n", -1)) {
            Due.is("line of at most 130 signs", line.length() <= 130, true);
            if (line.matches("    (    )?\\S.*\\) (throws .*)?\\{")) {
                inMethod = true;
                lines = 0;
            }
            lines++;
            if (inMethod && line.matches("    (    )?}")) {
                Due.is("sixty lines at most", lines <= 60, true);
                inMethod = false;
            }
        }
    }

    private static final int[] NUMBERS = {Integer.MIN_VALUE, Integer.MIN_VALUE + 1, -1001, -3, -2, -1, 0, 1, 2, 7, 8, 9, 10, 11, 13,
        14, 19, 20, 40, 41, 50, 51, 100, 101, 200, 201, 300, 301, 700, 701, 998, 999, 1000, 1024, 1025, 1999, 2000, 9999, 10000,
        99999, 0x20202020, 0x6c696e6b, 0x3b3b3b3b, Integer.MAX_VALUE - 1, Integer.MAX_VALUE};
    private static final String[] TEXTS = {"", "link a 1 0 2 1 5;", "link a 1 0 1 0 9;link b 1 0 1 0 9;flow f 16 a b;flow g 16 b a;",
        "link a 64 4 999 998 1999;link b 64 4 999 0 1;link c 1 0 1 0 1;flow f 1024 a b c;flow g 1024 c a b;sample 1 1 4;stage 1 1 99;",
        "link a 1 4 9 1 9;link b 1 0 2 1 2;link c 2 1 5 0 9;link d 2 2 5 0 9;link e 2 3 5 0 9;link f 2 4 5 0 9;link g 2 1 5 0 9;"
            + "link h 2 1 5 0 9;link i 2 1 5 0 9;link j 2 1 5 0 9;flow a 99 a b c d e;flow b 99 e f g h i;flow c 99 i j a b c;"
            + "flow d 99 j i h g f;flow e 99 c b a j i;flow f 99 d c b a j;flow g 99 g a f b e;flow h 99 h a;seed 7;"};

    /** Every call with every pair of odd numbers, in several states: only link throws. */
    private static void anyNumbers() throws Exception {
        java.util.Random chance = new java.util.Random(4);
        for (Method m : LosslessFabric.class.getDeclaredMethods()) {
            if (isPrivate(m)) {
                continue;
            }
            for (String text : TEXTS) {
                LosslessFabric x = Due.fabric(text);
                for (int i = 0; i < 300; i++) {
                    if (i % 60 == 30) {
                        x.tick(1 + i / 10);
                    }
                    call(x, m, chance);
                }
            }
        }
    }

    private static void call(LosslessFabric x, Method m, java.util.Random chance) throws Exception {
        Object[] args = new Object[m.getParameterCount()];
        for (int k = 0; k < args.length; k++) {
            int number = NUMBERS[chance.nextInt(NUMBERS.length)];
            args[k] = m.getParameterTypes()[k] == boolean.class ? (Object) (number % 2 == 0) : (Object) number;
        }
        String thrown = "";
        try {
            m.invoke(x, args);
        } catch (java.lang.reflect.InvocationTargetException e) {
            thrown = e.getCause().getClass().getSimpleName();
            StackTraceElement top = e.getCause().getStackTrace()[0];
            Due.is("thrown by link itself", top.getMethodName().equals("link"), true);
        }
        boolean fine = thrown.isEmpty() || m.getName().equals("link")
            && (thrown.equals("IndexOutOfBoundsException") || thrown.equals("NoSuchElementException"));
        Due.is(m.getName() + Arrays.toString(args) + " throws " + thrown, fine, true);
    }

    /** All calls of a run live in one room: what is made stands in constructors alone. */
    private static void makesNothing() {
        com.sun.management.ThreadMXBean bean = (com.sun.management.ThreadMXBean) ManagementFactory.getThreadMXBean();
        LosslessFabric x = Due.fabric(TEXTS[4]);
        dearCalls(x);
        long before = bean.getThreadAllocatedBytes(Thread.currentThread().getId());
        for (int i = 0; i < 40; i++) {
            dearCalls(x);
        }
        long made = bean.getThreadAllocatedBytes(Thread.currentThread().getId()) - before;
        Due.is("made " + made + " bytes in 40 rounds of calls", made < 40000, true);
    }

    private static void dearCalls(LosslessFabric x) {
        x.tick(3);
        x.rate(0, 99);
        x.keep();
        x.undo();
        x.back();
        x.ahead(0, 300, 1);
        x.flows(0, 300, 1);
        x.stalls();
        x.quiet();
        x.worst(40);
        x.leastSize(0, 100);
        x.chance(7, 200, 50, 2);
        x.fair(0, true);
        x.full();
        x.inCycles(0);
        x.inCycles(1);
        x.cycle(0);
        x.witness(0);
        x.count(9);
    }
}
