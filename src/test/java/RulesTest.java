import java.io.IOException;
import java.lang.management.ManagementFactory;
import java.lang.reflect.Constructor;
import java.lang.reflect.Field;
import java.lang.reflect.Member;
import java.lang.reflect.Method;
import java.lang.reflect.Modifier;
import java.nio.file.Files;
import java.nio.file.Path;
import java.util.ArrayList;
import java.util.Arrays;
import java.util.HashSet;
import java.util.List;
import java.util.Map;
import java.util.Random;
import java.util.Set;
import java.util.TreeMap;
import java.util.TreeSet;
import java.util.regex.Matcher;
import java.util.regex.Pattern;

/**
 * What shared/LANGUAGE.md asks and can be seen from outside: the face, the shape of
 * the classes, words that may not stand in the source, and what a run makes.
 */
public final class RulesTest {
    private static final Path SOURCE = Path.of("src/main/java/Transversary.java");
    private static final Path DOCUMENT = Path.of("../shared/DOC.md");
    private static final int MOST_BYTES = 1 << 16;
    private static final int MOST_DEEP = 8;
    private static int wrong = 0;

    public static void main(String[] args) throws IOException {
        face();
        shapes();
        words();
        calls();
        room();
        System.out.println(wrong == 0 ? "RulesTest: all rules are kept" : "RulesTest: " + wrong + " rules are broken");
        if (wrong != 0) {
            System.exit(1);
        }
    }

    private static void must(boolean isKept, String rule) {
        if (!isKept) {
            wrong++;
            System.out.println(rule);
        }
    }

    /** The signatures of the document are those of the class, and there are no others. */
    private static void face() throws IOException {
        String text = Files.readString(DOCUMENT);
        int start = text.indexOf("public final class Transversary {");
        String[] lines = text.substring(start, text.indexOf("```", start)).split("\n");
        Set<String> due = new TreeSet<>();
        for (String line : Arrays.copyOfRange(lines, 1, lines.length)) {
            if (line.contains("(")) {
                due.add(line.strip().replaceAll(" [a-z]\\w*([,)])", "$1").replace(";", ""));
            }
        }
        Set<String> got = new TreeSet<>();
        for (Constructor<?> made : Transversary.class.getDeclaredConstructors()) {
            must(Modifier.isPublic(made.getModifiers()), "rule 1: a constructor is not public");
            got.add("public Transversary()");
        }
        for (Method method : Transversary.class.getDeclaredMethods()) {
            if (!Modifier.isPrivate(method.getModifiers())) {
                got.add(signature(method));
            }
        }
        must(due.equals(got), "rule 1: the face is " + got + ", due is " + due);
        must(Modifier.isFinal(Transversary.class.getModifiers()), "rule 1: the class is not final");
    }

    private static String signature(Method method) {
        List<String> types = new ArrayList<>();
        for (Class<?> type : method.getParameterTypes()) {
            types.add(type.getSimpleName());
        }
        List<String> thrown = new ArrayList<>();
        for (Class<?> type : method.getExceptionTypes()) {
            thrown.add(type.getSimpleName());
        }
        return Modifier.toString(method.getModifiers()) + " " + method.getReturnType().getSimpleName() + " "
                + method.getName() + "(" + String.join(", ", types) + ")"
                + (thrown.isEmpty() ? "" : " throws " + String.join(", ", thrown));
    }

    private static void shapes() {
        Set<String> faceNames = new TreeSet<>();
        for (Method method : Transversary.class.getMethods()) {
            faceNames.add(method.getName());
        }
        List<Class<?>> classes = new ArrayList<>(List.of(Transversary.class.getDeclaredClasses()));
        for (Class<?> inner : classes) {
            int modifiers = inner.getModifiers();
            must(Modifier.isPrivate(modifiers) && Modifier.isStatic(modifiers), "rule 1: " + inner + " is not hidden");
            for (Method method : inner.getDeclaredMethods()) {
                must(!faceNames.contains(method.getName()), "rule 1: " + method + " bears a name of the face");
            }
        }
        classes.add(Transversary.class);
        must(classes.size() <= 12, "rule 11: there are " + classes.size() + " classes");
        for (Class<?> one : classes) {
            shape(one);
        }
    }

    private static void shape(Class<?> one) {
        int fields = 0;
        for (Field field : one.getDeclaredFields()) {
            boolean isStatic = Modifier.isStatic(field.getModifiers());
            must(isHiddenOrInner(one, field), "rule 1: " + field + " is seen");
            must(!isStatic || Modifier.isFinal(field.getModifiers()), "rule 5: " + field + " can change");
            fields += isStatic ? 0 : 1;
        }
        must(fields <= 20, "rule 11: " + one + " has " + fields + " fields");
        for (Method method : one.getDeclaredMethods()) {
            must(method.getParameterCount() <= 7, "rule 11: " + method + " has too many parameters");
        }
    }

    private static boolean isHiddenOrInner(Class<?> one, Member member) {
        return one != Transversary.class || Modifier.isPrivate(member.getModifiers());
    }

    private static void words() throws IOException {
        List<String> lines = Files.readAllLines(SOURCE);
        String[] refused = {"import ", "package ", "->", "::", "finally", "synchronized", "assert ", "catch",
            "Exact(", "static {", "System.", "Thread", "Object ", "double", "float", "lambda"};
        int methodStart = -1;
        for (int i = 0; i < lines.size(); i++) {
            String line = lines.get(i);
            String code = line.strip().startsWith("*") || line.strip().startsWith("/") ? "" : line;
            for (String word : refused) {
                must(!code.contains(word), "line " + (i + 1) + ": " + word);
            }
            thrownAndMade(code, "line " + (i + 1));
            must(line.chars().allMatch(sign -> sign >= 32 && sign < 127), "line " + (i + 1) + ": another sign");
            if (code.matches(" {4,8}(public|private|[a-zA-Z]).*\\) .*\\{") || code.matches(" {4}public .*\\(.*")) {
                methodStart = i;
            }
            if (code.matches(" {4,8}\\}") && methodStart >= 0) {
                must(i - methodStart < 60, "rule 11: the method at line " + (methodStart + 1) + " is long");
                methodStart = -1;
            }
        }
    }

    /** What is thrown is one of the document's exceptions with a written text; rows are made with their object. */
    private static void thrownAndMade(String code, String place) {
        String thrown = "throw new (IndexOutOfBounds|IllegalArgument|IllegalState)Exception\\(\"[^\"]*\"\\);";
        must(!code.contains("throw ") || code.strip().matches(thrown), place + ": rule 6, what is thrown");
        boolean isOfField = code.matches(" {4,8}private final \\S+ \\w+ = new .*");
        boolean isOnce = code.contains("families[family] = new Sets();") || code.contains("= new StringBuilder();");
        boolean isMade = code.contains("new ") && !code.contains("throw ");
        must(!isMade || isOfField || isOnce, place + ": rule 12, what is made");
        must(!code.contains("while (true)") && !code.contains("for (;;)"), place + ": rule 9, a loop without an end");
        String withoutTexts = code.replaceAll("\"[^\"]*\"", "\"\"");
        must(!withoutTexts.matches(".*\"\\s*\\+.*|.*\\+\\s*\".*"), place + ": rule 10, texts are joined by +");
    }

    /** Methods of one name are taken for one, so that no way of calls is overlooked. */
    private static void calls() throws IOException {
        String text = Files.readString(SOURCE).replaceAll("\"[^\"]*\"", "").replaceAll("(?s)/\\*.*?\\*/|//[^\n]*", "");
        Matcher head = Pattern.compile("(?m)^ {4}(?: {4})?(?:(?:public|private|static) )*[\\w\\[\\]]+ (\\w+)"
                + "\\([^)]*\\)[^;{}]*\\{").matcher(text);
        Map<String, StringBuilder> bodies = new TreeMap<>();
        while (head.find()) {
            int indent = text.indexOf(text.substring(head.start()).strip().charAt(0), head.start()) - head.start();
            int end = text.indexOf("\n" + " ".repeat(indent) + "}", head.end());
            bodies.computeIfAbsent(head.group(1), name -> new StringBuilder()).append(text, head.end(), end);
        }
        must(bodies.size() > 150, "rule 11: only " + bodies.size() + " methods are found");
        for (String name : bodies.keySet()) {
            int deep = deepFrom(name, bodies, new HashSet<>());
            must(deep <= MOST_DEEP, "rule 11: calls from " + name + " go " + deep + " deep");
        }
    }

    private static int deepFrom(String name, Map<String, StringBuilder> bodies, Set<String> open) {
        if (!open.add(name)) {
            must(false, "rule 8: " + name + " calls itself by " + open);
            return 0;
        }
        int deepest = 0;
        Matcher call = Pattern.compile("(\\w+)\\(").matcher(bodies.get(name));
        while (call.find()) {
            if (bodies.containsKey(call.group(1))) {
                deepest = Math.max(deepest, deepFrom(call.group(1), bodies, open));
            }
        }
        open.remove(name);
        return 1 + deepest;
    }

    /** All calls of a run live in one room: what an object does behind its making leaves nothing there. */
    private static void room() {
        com.sun.management.ThreadMXBean meter =
                (com.sun.management.ThreadMXBean) ManagementFactory.getThreadMXBean();
        long thread = Thread.currentThread().getId();
        new Transversary();
        long before = meter.getThreadAllocatedBytes(thread);
        Transversary x = new Transversary();
        long made = meter.getThreadAllocatedBytes(thread);
        must(made - before < MOST_BYTES, "rule 12: an object takes " + (made - before) + " bytes");
        fill(x);
        long filled = meter.getThreadAllocatedBytes(thread);
        long sum = 0;
        for (int call = 0; call < 100; call++) {
            sum += x.digest();
        }
        for (int call = 0; call < 100; call++) {
            sum += x.game(0) + x.ring(1, true) + x.net(2, 3) + x.growth(3, 4) + x.resample(0, 9) + x.ways(1, 3, 1)
                    + x.kernel(0, 5) + x.settle(1) + x.mix(0, 1, 2) + x.dual(0, 1) + x.faces(2, 3, true);
        }
        long done = meter.getThreadAllocatedBytes(thread);
        must(done - filled < MOST_BYTES, "rule 12: the calls make " + (done - filled) + " bytes (" + sum + ")");
    }

    private static void fill(Transversary x) {
        Random random = new Random(3);
        x.ground(7);
        for (int family = 0; family < 5; family++) {
            x.family();
            List<Integer> sets = new ArrayList<>();
            for (int set = 0; set < 128; set++) {
                sets.add(set);
            }
            for (int many = 0; many < 40; many++) {
                x.add(family, sets.remove(random.nextInt(sets.size())));
            }
        }
    }
}
