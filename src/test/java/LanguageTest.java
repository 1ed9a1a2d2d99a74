import com.sun.management.ThreadMXBean;
import java.io.IOException;
import java.lang.management.ManagementFactory;
import java.lang.reflect.Constructor;
import java.lang.reflect.Field;
import java.lang.reflect.Method;
import java.lang.reflect.Modifier;
import java.nio.file.Files;
import java.nio.file.Path;
import java.util.ArrayList;
import java.util.Arrays;
import java.util.List;
import java.util.Set;
import java.util.TreeSet;
import java.util.regex.Matcher;
import java.util.regex.Pattern;

/** The document's face and the rules of LANGUAGE.md that can be seen by reflection, in the source or in a run. */
public final class LanguageTest {
    private static final String FACE = "write(long,int) erase() fault() office() desk(int,int) trail(int,int) file(int,int)"
            + " as(int,int) go(int) next(int) spill(int,int) stamp(int,int) rain() sit(int) keep(int) back(int)"
            + " later(int,int,int) filed(int) queue(int,int) honey(int,int,int) smear(int,int,int) quiet(int,int)"
            + " harm(int,int) worst(int) seen(int,int,int) forget() stamps(int) crumbs(int,int) odds(int,int) count(int)";
    private static final List<String> FORBIDDEN = List.of("throw", "throws", "try", "catch", "finally", "synchronized", "assert",
            "volatile", "transient", "native", "var", "Object", "Thread", "Random", "Exception", "equals", "hashCode", "toString",
            "nanoTime", "currentTimeMillis", "getClass", "package", "Collections", "Stream", "Map", "Set", "record");
    private static final Set<String> IMPORTS = Set.of("java.util.Arrays", "java.util.ArrayList", "java.util.List", "java.util.Iterator");

    private static int wrong = 0;

    public static void main(String[] args) throws IOException {
        lookAtFace();
        lookAtClasses();
        String source = Files.readString(Path.of("src/main/java/SugarStamps.java"));
        lookAtSource(source);
        lookAtMethodLengths(source);
        lookAtRoom();
        lookAtWildCalls();
        System.out.println(wrong == 0 ? "the rules hold" : wrong + " rules do not hold");
        if (wrong != 0) System.exit(1);
    }

    private static void must(boolean holds, String rule) {
        if (holds) return;
        wrong++;
        System.out.println("does not hold: " + rule);
    }

    private static String signature(Method m) {
        List<String> types = new ArrayList<>();
        for (Class<?> type : m.getParameterTypes()) types.add(type.getName());
        return m.getName() + "(" + String.join(",", types) + ")";
    }

    private static void lookAtFace() {
        Class<?> c = SugarStamps.class;
        must(c.getModifiers() == (Modifier.PUBLIC | Modifier.FINAL), "the class is public and final");
        Set<String> open = new TreeSet<>();
        for (Method m : c.getDeclaredMethods()) {
            if (Modifier.isPrivate(m.getModifiers()) || m.isSynthetic()) continue;
            open.add(signature(m));
            must(m.getModifiers() == Modifier.PUBLIC && m.getReturnType() == int.class, m + " is public and answers an int");
        }
        must(open.equals(new TreeSet<>(Arrays.asList(FACE.split(" ")))), "the open methods are the document's: " + open);
        Constructor<?>[] made = c.getDeclaredConstructors();
        must(made.length == 1 && made[0].getParameterCount() == 0 && made[0].getModifiers() == Modifier.PUBLIC, "one public constructor");
        Set<String> constants = new TreeSet<>();
        for (Field f : c.getDeclaredFields()) {
            if (!Modifier.isPrivate(f.getModifiers())) constants.add(f.getName());
        }
        must(constants.equals(Set.of("NONE", "UNKNOWN", "OUTSIDE", "NOT", "FULL")), "the open fields are the constants: " + constants);
    }

    private static void lookAtClasses() {
        Set<String> face = new TreeSet<>();
        for (String one : FACE.split(" ")) face.add(one.substring(0, one.indexOf('(')));
        List<Class<?>> all = new ArrayList<>(List.of(SugarStamps.class));
        all.addAll(Arrays.asList(SugarStamps.class.getDeclaredClasses()));
        must(all.size() <= 12, "at most twelve classes");
        for (Class<?> c : all) {
            boolean inner = c != SugarStamps.class;
            if (inner) must(Modifier.isStatic(c.getModifiers()) && !Modifier.isPublic(c.getModifiers()), c + " is static, not public");
            int fields = 0;
            for (Field f : c.getDeclaredFields()) {
                if (!Modifier.isStatic(f.getModifiers())) fields++;
                must(!Modifier.isStatic(f.getModifiers()) || Modifier.isFinal(f.getModifiers()), f + " is no static state");
            }
            must(fields <= 20, c + " has at most twenty fields");
            for (Method m : c.getDeclaredMethods()) {
                must(m.getParameterCount() <= 7, m + " takes at most seven parameters");
                if (inner || Modifier.isPrivate(m.getModifiers())) must(!face.contains(m.getName()), m + " bears no public name");
            }
        }
    }

    /** The source without comments and with empty texts and signs. */
    private static String bare(String source) {
        String s = source.replaceAll("(?s)/\\*.*?\\*/", " ").replaceAll("//[^\n]*", " ");
        return s.replaceAll("\"[^\"\n]*\"", "\"\"").replaceAll("'[^'\n]'", "' '");
    }

    private static void lookAtSource(String source) {
        must(source.chars().allMatch(c -> c < 128), "the source is of signs below 128");
        String s = bare(source);
        for (String word : FORBIDDEN) must(!Pattern.compile("\\b" + word + "\\b").matcher(s).find(), "no '" + word + "'");
        must(!s.contains("->") && !s.contains("::"), "no lambda, no method reference");
        Matcher imports = Pattern.compile("import\\s+([^;]+);").matcher(s);
        while (imports.find()) must(IMPORTS.contains(imports.group(1).trim()), "import " + imports.group(1));
        Matcher system = Pattern.compile("\\bSystem\\.(\\w+)").matcher(s);
        while (system.find()) must(system.group(1).equals("arraycopy"), "System." + system.group(1));
        Matcher library = Pattern.compile("\\b(Math|Integer|Long|Arrays)\\.(\\w+)").matcher(s);
        Set<String> known = Set.of("compare", "max", "min", "abs", "bitCount", "floorDiv", "floorMod", "fill", "copyOf", "copyOfRange");
        while (library.find()) must(known.contains(library.group(2)), library.group());
    }

    private static void lookAtMethodLengths(String source) {
        String[] lines = source.split("\n");
        Pattern head = Pattern.compile("^(    |        )(private |public |static |final )*[\\w\\[\\]]+ ?\\w*\\(.*\\) \\{$");
        for (int i = 0; i < lines.length; i++) {
            if (!head.matcher(lines[i]).matches()) continue;
            String indent = lines[i].substring(0, lines[i].length() - lines[i].stripLeading().length());
            int end = i;
            while (end < lines.length && !lines[end].equals(indent + "}")) end++;
            must(end - i < 60, "at most sixty lines: " + lines[i].trim());
        }
    }

    private static SugarStamps busy() {
        return Due.told("office 6;stamps 1;licks 2;trail 0 1 3;trail 1 2 4;trail 2 3 0;trail 3 4 1;trail 4 5 1;trail 0 2 9",
                "file 0 4 3;file 1 5 0;file 2 5 2;file 3 0 0;file 4 0 1;file 5 0 7");
    }

    /** What is made is never given back in the room of a run: calls must make nothing. */
    private static void lookAtRoom() {
        ThreadMXBean room = (ThreadMXBean) ManagementFactory.getThreadMXBean();
        long thread = Thread.currentThread().getId();
        SugarStamps x = busy();
        callAll(x, 1);
        room.getThreadAllocatedBytes(thread);
        long before = room.getThreadAllocatedBytes(thread);
        long between = room.getThreadAllocatedBytes(thread);
        callAll(x, 20);
        long after = room.getThreadAllocatedBytes(thread);
        must(after - between <= between - before + 100, "calls make no objects, but " + (after - between) + " bytes were taken");
        before = room.getThreadAllocatedBytes(thread);
        SugarStamps fresh = new SugarStamps();
        after = room.getThreadAllocatedBytes(thread);
        must(fresh.count(0) == 2 && after - before < 20000, "a new object is small, but " + (after - before) + " bytes were taken");
    }

    private static int callAll(SugarStamps x, int times) {
        int sum = 0;
        for (int i = 0; i < times; i++) {
            sum += x.write(0x3120656461666AL, 7) + x.fault() + x.office() + x.erase() + x.write(0x312065646166L, 6) + x.office();
            sum += x.desk(1, 1) + x.trail(1, 1) + x.file(1, 1) + x.as(1, 1) + x.keep(0) + x.go(1) + x.next(0) + x.spill(1, 5);
            sum += x.stamp(1, 1) + x.rain() + x.sit(2) + x.later(1, 30, 1) + x.filed(1) + x.queue(1, 30) + x.honey(6, 9, -1);
            sum += x.smear(1, 30, 1) + x.quiet(1, 4) + x.harm(1, 30) + x.worst(30) + x.seen(1, 1, 30) + x.stamps(1) + x.forget();
            sum += x.crumbs(1, 6) + x.odds(1, 1) + x.count(1) + x.back(0);
        }
        return sum;
    }

    /** No call throws, whatever its numbers. */
    private static void lookAtWildCalls() {
        int[] wild = {0, 1, -1, -2, 2, 5, 6, 8, 11, 12, 31, 32, 60, 99, 100, 255, Integer.MAX_VALUE, Integer.MIN_VALUE};
        SugarStamps x = busy();
        int sum = 0;
        for (int a : wild) {
            sum += x.next(a) + x.sit(a) + x.keep(a) + x.back(a) + x.filed(a) + x.worst(a) + x.stamps(a) + x.count(a) + x.go(a);
            for (int b : wild) {
                sum += x.write((long) a << 32 | b, b) + x.desk(a, b) + x.trail(a, b) + x.file(a, b) + x.as(a, b) + x.spill(a, b);
                sum += x.stamp(a, b) + x.queue(a, b) + x.quiet(a, b) + x.harm(a, b) + x.crumbs(a, b) + x.odds(a, b);
                sum += x.fault() + x.office() + (x.count(9) > 190 ? x.erase() : 0);
                for (int c : wild) sum += x.later(a, b, c) + x.honey(a, b, c) + x.smear(a, b, c) + x.seen(a, b, c) + x.forget();
            }
        }
        must(sum != Integer.MIN_VALUE, "wild calls answer");
    }
}
