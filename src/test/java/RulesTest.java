import java.io.IOException;
import java.lang.management.ManagementFactory;
import java.lang.reflect.Constructor;
import java.lang.reflect.Field;
import java.lang.reflect.Method;
import java.lang.reflect.Modifier;
import java.nio.file.Files;
import java.nio.file.Path;
import java.util.ArrayList;
import java.util.LinkedHashMap;
import java.util.List;
import java.util.Map;
import java.util.Set;
import java.util.TreeSet;
import java.util.regex.Matcher;
import java.util.regex.Pattern;

/** The face of the class and those rules of LANGUAGE.md that a look at the source or the loaded class can show. */
public final class RulesTest {
    private static final Path SOURCE = Path.of("src/main/java/ShiftedShapes.java");
    private static final Set<String> FACE = new TreeSet<>(List.of("write(1)", "wipe(0)", "fault(0)", "lay(0)", "note(2)",
        "put(2)", "take(1)", "shift(3)", "shiftAll(2)", "mode(1)", "undo(0)", "largest(2)", "meets(3)", "shape(2)", "place(2)",
        "best(1)", "parted(2)", "parting(1)", "shapes(1)", "link(3)", "better(1)", "day(3)", "keep(0)", "back(0)", "count(1)"));
    private static final Pattern METHOD =
        Pattern.compile("(?m)^ +(?:public|private) (?:static )?(?:\\w+(?:\\[\\])? )?(\\w+)\\(([^)]*)\\) \\{$");

    private static int wrong = 0;

    public static void main(String[] args) throws IOException {
        faceIsTheDocuments();
        staticFieldsAreFinal();
        String code = withoutCommentsAndTexts(Files.readString(SOURCE));
        forbiddenWordsAreAbsent(code);
        methodsAreShort(code);
        callsAreNotDeep(code);
        callsMakeNothing();
        System.out.println("rules: " + wrong + " broken");
        if (wrong != 0) {
            System.exit(1);
        }
    }

    private static void hold(String rule, boolean held) {
        if (!held) {
            wrong++;
            System.out.println("not so: " + rule);
        }
    }

    private static void faceIsTheDocuments() {
        TreeSet<String> seen = new TreeSet<>();
        for (Method method : ShiftedShapes.class.getDeclaredMethods()) {
            if (!Modifier.isPrivate(method.getModifiers()) && !method.isSynthetic()) {
                seen.add(method.getName() + "(" + method.getParameterCount() + ")");
                hold(method + " is public and answers int",
                    Modifier.isPublic(method.getModifiers()) && method.getReturnType() == int.class);
            }
        }
        hold("the public methods are " + FACE + ", not " + seen, seen.equals(FACE));
        TreeSet<String> constants = new TreeSet<>();
        for (Field field : ShiftedShapes.class.getDeclaredFields()) {
            if (!Modifier.isPrivate(field.getModifiers()) && !field.isSynthetic()) {
                constants.add(field.getName());
            }
        }
        hold("the public constants are as told, not " + constants, constants.equals(Set.of("BAD", "NO", "FULL", "NONE")));
        Constructor<?>[] constructors = ShiftedShapes.class.getDeclaredConstructors();
        hold("one constructor without arguments", constructors.length == 1 && constructors[0].getParameterCount() == 0);
        hold("the class is final", Modifier.isFinal(ShiftedShapes.class.getModifiers()));
    }

    private static void staticFieldsAreFinal() {
        List<Class<?>> classes = new ArrayList<>(List.of(ShiftedShapes.class.getDeclaredClasses()));
        hold("at most twelve classes", classes.size() < 12);
        for (Class<?> inside : classes) {
            hold(inside + " is static", Modifier.isStatic(inside.getModifiers()));
        }
        classes.add(ShiftedShapes.class);
        for (Class<?> one : classes) {
            int fields = 0;
            for (Field field : one.getDeclaredFields()) {
                boolean isStatic = Modifier.isStatic(field.getModifiers());
                fields += isStatic ? 0 : 1;
                hold(field + " is final", !isStatic || Modifier.isFinal(field.getModifiers()));
            }
            hold(one + " has at most twenty fields", fields <= 20);
        }
    }

    private static String withoutCommentsAndTexts(String source) {
        return source.replaceAll("(?s)/\\*.*?\\*/", "").replaceAll("//[^\n]*", "").replaceAll("'(?:\\\\.|[^'])'", "0")
            .replaceAll("\"(?:\\\\.|[^\"\\\\])*\"", "text");
    }

    private static void forbiddenWordsAreAbsent(String code) {
        for (String word : List.of("throw", "throws", "try", "catch", "synchronized", "assert", "package", "protected", "yield",
            "Random", "Thread", "File", "Class", "Object", "hashCode", "toString", "MIN_VALUE", "MAX_VALUE", "lowestOneBit")) {
            hold("no " + word, !Pattern.compile("\\b" + word + "\\b").matcher(code).find());
        }
        hold("no lambda, no method reference", !code.contains("->") && !code.contains("::"));
        for (Matcher m = Pattern.compile("(?m)^import (.*);$").matcher(code); m.find();) {
            hold("no import " + m.group(1), Set.of("java.util.Arrays", "java.util.ArrayList", "java.util.List").contains(m.group(1)));
        }
        Set<String> library = Set.of("Arrays.fill", "System.arraycopy", "Integer.bitCount", "Math.max", "Math.min", "Math.floorMod");
        for (Matcher m = Pattern.compile("\\b(Arrays|System|Integer|Long|Math|Character|String)\\.(\\w+)").matcher(code); m.find();) {
            hold("no " + m.group(), m.group().startsWith("Arrays;") || library.contains(m.group()));
        }
    }

    /** Of each method's name all that stands in the bodies of that name. */
    private static Map<String, String> bodies(String code) {
        LinkedHashMap<String, String> bodies = new LinkedHashMap<>();
        for (Matcher m = METHOD.matcher(code); m.find();) {
            String margin = code.substring(m.start(), code.indexOf('p', m.start()));
            int end = code.indexOf("\n" + margin + "}", m.end());
            bodies.merge(m.group(1), code.substring(m.end(), end), String::concat);
        }
        return bodies;
    }

    private static void methodsAreShort(String code) {
        Map<String, String> bodies = bodies(code);
        hold("the methods are seen", bodies.size() > FACE.size());
        bodies.forEach((name, body) -> hold(name + " is short", body.lines().count() <= 60));
        for (Matcher m = METHOD.matcher(code); m.find();) {
            hold(m.group(1) + " takes seven at most", m.group(2).split(",").length <= 7);
            boolean isPrivate = m.group().strip().startsWith("private");
            hold(m.group(1) + " does not bear a public name",
                !isPrivate || FACE.stream().noneMatch(face -> face.startsWith(m.group(1) + "(")));
        }
    }

    private static void callsAreNotDeep(String code) {
        Map<String, String> bodies = bodies(code);
        bodies.keySet().forEach(name -> hold(name + " calls at most eight deep", depth(name, bodies, List.of()) <= 8));
    }

    private static int depth(String name, Map<String, String> bodies, List<String> open) {
        ArrayList<String> nowOpen = new ArrayList<>(open);
        nowOpen.add(name);
        int deepest = 0;
        for (Matcher m = Pattern.compile("\\b(\\w+)\\(").matcher(bodies.get(name)); m.find();) {
            if (bodies.containsKey(m.group(1)) && !nowOpen.contains(m.group(1))) {
                deepest = Math.max(deepest, depth(m.group(1), bodies, nowOpen));
            }
        }
        return deepest + 1;
    }

    /** All rows are made by the constructor: the dearest calls make none. */
    private static void callsMakeNothing() {
        com.sun.management.ThreadMXBean bean = (com.sun.management.ThreadMXBean) ManagementFactory.getThreadMXBean();
        long thread = Thread.currentThread().getId();
        ShiftedShapes x = new ShiftedShapes();
        dearCalls(x);
        long before = bean.getThreadAllocatedBytes(thread);
        dearCalls(x);
        long made = bean.getThreadAllocatedBytes(thread) - before;
        hold("calls make nothing, not " + made + " bytes", made < 4096);
        before = bean.getThreadAllocatedBytes(thread);
        new ShiftedShapes();
        made = bean.getThreadAllocatedBytes(thread) - before;
        hold("an object is small, not " + made + " bytes", made < 65536);
    }

    private static void dearCalls(ShiftedShapes x) {
        for (int i = 0; i < 12; i++) {
            x.mode(i % 3);
            x.better(0);
            x.shapes(1);
            x.parting(2);
            x.day(i, 20, 2);
            x.put(i, i % 12);
            x.take(0);
            x.shift(0, 1, 0);
            x.keep();
            x.back();
            x.write('n');
            x.fault();
            x.place(3, 1);
        }
    }
}
