import java.io.IOException;
import java.lang.management.ManagementFactory;
import java.lang.reflect.Constructor;
import java.lang.reflect.Field;
import java.lang.reflect.Method;
import java.lang.reflect.Modifier;
import java.nio.file.Files;
import java.nio.file.Path;
import java.util.ArrayDeque;
import java.util.Arrays;
import java.util.Comparator;
import java.util.Deque;
import java.util.List;
import java.util.Random;
import java.util.Set;
import java.util.TreeSet;
import java.util.regex.Matcher;
import java.util.regex.Pattern;
import java.util.stream.Collectors;

/** The public face, those rules of LANGUAGE.md that a program can see, the room of a run, and that none throws. */
public final class LanguageTest {
    private static final Method[] METHODS = Arrays.stream(HeaderLine.class.getDeclaredMethods())
            .filter(m -> Modifier.isPublic(m.getModifiers()))
            .sorted(Comparator.comparing(Method::getName)).toArray(Method[]::new);

    public static void main(String[] args) throws IOException {
        face();
        Set<String> publicNames = Arrays.stream(METHODS).map(Method::getName).collect(Collectors.toSet());
        Class<?>[] inside = HeaderLine.class.getDeclaredClasses();
        Due.holds("some twelve classes at most", inside.length + 1 <= 14);
        members(HeaderLine.class, publicNames);
        for (Class<?> c : inside) {
            Due.holds(c + " is static", Modifier.isStatic(c.getModifiers()));
            Due.holds(c + " is private or package-visible",
                    !Modifier.isPublic(c.getModifiers()) && !Modifier.isProtected(c.getModifiers()));
            members(c, publicNames);
        }
        source(code());
        room();
        neverThrows();
        Due.finish();
    }

    /** The document's face, a signature each, by the types of its parameters. */
    private static Set<String> dueFace() throws IOException {
        Path project = Path.of(System.getProperty("project", "."));
        String text = Files.readString(project.resolve("../shared/DOC.md"));
        Matcher face = Pattern.compile("(?s)## The public face\\s+```java\n(.*?)```").matcher(text);
        Set<String> due = new TreeSet<>();
        if (face.find()) {
            Matcher signature = Pattern.compile("public (?!final class)([^;]+);").matcher(face.group(1));
            while (signature.find()) {
                due.add(signature.group(1).replaceAll("(int|long|boolean) \\w+(?=[,)])", "$1"));
            }
        }
        return due;
    }

    private static void face() throws IOException {
        Class<?> c = HeaderLine.class;
        Due.holds("public and final", Modifier.isPublic(c.getModifiers()) && Modifier.isFinal(c.getModifiers()));
        Due.holds("no package", c.getPackageName().isEmpty());
        Set<String> seen = new TreeSet<>();
        for (Constructor<?> made : c.getDeclaredConstructors()) {
            Due.holds(made + " is public", Modifier.isPublic(made.getModifiers()));
            seen.add(made.toString().replace("public ", "").replace(",", ", "));
        }
        for (Method m : c.getDeclaredMethods()) {
            String types = Arrays.stream(m.getParameterTypes()).map(Class::getSimpleName).collect(Collectors.joining(", "));
            if (Modifier.isPublic(m.getModifiers())) {
                Due.holds(m + " is no static one", !Modifier.isStatic(m.getModifiers()));
                seen.add(m.getReturnType().getSimpleName() + " " + m.getName() + "(" + types + ")");
            } else {
                Due.holds(m + " is private", Modifier.isPrivate(m.getModifiers()));
            }
        }
        Set<String> due = dueFace();
        Due.is("constructor and methods in the document's face", due.size(), 29);
        Due.holds("the face is the document's: " + seen + ", due is " + due, seen.equals(due));
        for (Field f : c.getDeclaredFields()) {
            Due.holds(f + " is private", Modifier.isPrivate(f.getModifiers()));
        }
    }

    private static void members(Class<?> c, Set<String> publicNames) {
        int fields = 0;
        for (Field f : c.getDeclaredFields()) {
            boolean isStatic = Modifier.isStatic(f.getModifiers());
            fields += isStatic ? 0 : 1;
            Due.holds(f + " is final", !isStatic || Modifier.isFinal(f.getModifiers()));
        }
        Due.holds(c + " has some twenty fields at most", fields <= 22);
        for (Method m : c.getDeclaredMethods()) {
            boolean isPrivate = Modifier.isPrivate(m.getModifiers());
            Due.holds(m + " bears no public one's name", !isPrivate || !publicNames.contains(m.getName()));
            Due.holds(m + " has seven parameters at most", m.getParameterCount() <= 7);
        }
    }

    private static String code() throws IOException {
        Path project = Path.of(System.getProperty("project", "."));
        String text = Files.readString(project.resolve("src/main/java/HeaderLine.java"));
        String kept = Pattern.compile("(?s)/\\*.*?\\*/").matcher(text).replaceAll(comment -> comment.group().replaceAll(".", ""));
        return kept.replaceAll("//[^\n]*", " ");
    }

    private static void source(String code) {
        String[] words = {"throw", "throws", "try", "catch", "synchronized", "assert", "package", "native", "volatile",
            "Object", "System\\.(?!arraycopy\\b)", "Random", "Thread", "hashCode", "\\w+Exact"};
        for (String word : words) {
            Due.holds("no " + word, !Pattern.compile("\\b" + word + (word.endsWith(")") ? "" : "\\b")).matcher(code).find());
        }
        String withoutArrowsOfSwitch = code.replaceAll("\\b(case\\b[^;{}]*?|default)\\s*->", " ");
        Due.holds("no lambda, no method reference", !withoutArrowsOfSwitch.contains("->") && !code.contains("::"));
        Matcher imports = Pattern.compile("import\\s+([^;]+);").matcher(code);
        while (imports.find()) {
            Due.holds("import of " + imports.group(1), imports.group(1).matches("java\\.util\\.(Arrays|ArrayList|List|Iterator)"));
        }
        shortMethods(code);
    }

    /** A body is a method's if it stands in a class body and is none itself. */
    private static void shortMethods(String code) {
        Deque<Integer> begun = new ArrayDeque<>();
        Deque<Boolean> isClassBody = new ArrayDeque<>(List.of(false));
        int line = 1;
        int sentence = 0;
        for (int i = 0; i < code.length(); i++) {
            char c = code.charAt(i);
            if (c == '\n') {
                line++;
            } else if (c == '{') {
                begun.push(line);
                isClassBody.push(code.substring(sentence, i).matches("(?s).*\\b(class|enum|interface|record)\\b.*"));
            } else if (c == '}' && !begun.isEmpty()) {
                int lines = line - begun.pop() + 1;
                boolean isMethod = !isClassBody.pop() && isClassBody.peek();
                Due.holds("the method that ends in line " + line + " is short", !isMethod || lines <= 66);
            }
            if (c == '{' || c == '}' || c == ';') {
                sentence = i + 1;
            }
        }
        Due.holds("every brace is closed", begun.isEmpty());
    }

    /**
     * All calls of a run live in one room of 600,000 objects and 7.3 million fields and elements: each takes a
     * byte at least, and an object 16 of them.
     */
    private static void room() {
        com.sun.management.ThreadMXBean threads =
                (com.sun.management.ThreadMXBean) ManagementFactory.getThreadMXBean();
        long id = Thread.currentThread().getId();
        fullRun();
        long before = threads.getThreadAllocatedBytes(id);
        long answers = fullRun();
        long bytes = threads.getThreadAllocatedBytes(id) - before;
        Due.holds("answers came", answers != 0);
        Due.holds("a full run fits the room: " + bytes + " bytes", bytes > 0 && bytes < 7_300_000);
    }

    /** 512 calls that make the widest letters. */
    private static long fullRun() {
        HeaderLine x = new HeaderLine(7);
        long answers = 0;
        for (int f = 0; f < 8; f++) {
            answers += x.field(2, 32, 0, 0);
        }
        for (int l = 0; l < 200; l++) {
            if (l < 104) {
                x.set(l % 8, l * 1_000_003L);
            }
            answers += x.send(0, false);
            answers += x.deliver(l);
        }
        return answers;
    }

    /** Any call, with any arguments, in any state, and far behind the last one whose answer is promised. */
    private static void neverThrows() {
        Random random = new Random(29);
        for (int run = 0; run < 300; run++) {
            HeaderLine x = new HeaderLine(anyInt(random));
            String call = "none";
            try {
                for (int i = 0; i < 4000; i++) {
                    Method m = METHODS[random.nextInt(METHODS.length)];
                    Object[] arguments = new Object[m.getParameterCount()];
                    for (int k = 0; k < arguments.length; k++) {
                        arguments[k] = any(random, m.getParameterTypes()[k]);
                    }
                    call = m.getName() + Arrays.toString(arguments);
                    m.invoke(x, arguments);
                }
                Due.holds("it ended", true);
            } catch (ReflectiveOperationException thrown) {
                Due.holds("run " + run + ": " + call + " threw " + thrown.getCause(), false);
            }
        }
    }

    private static Object any(Random random, Class<?> type) {
        if (type == boolean.class) {
            return random.nextInt(4) == 0;
        }
        if (type == long.class) {
            return random.nextLong();
        }
        return anyInt(random);
    }

    private static int anyInt(Random random) {
        int[] edges = {Integer.MIN_VALUE, Integer.MAX_VALUE, -1, 8, 32, 33, 59, 60, 61, 199, 200, 255, 256, 1000, 30000};
        return switch (random.nextInt(12)) {
            case 0 -> random.nextInt();
            case 1 -> edges[random.nextInt(edges.length)];
            case 2 -> random.nextInt(200);
            case 3 -> random.nextInt(33);
            case 4, 5 -> random.nextInt(8);
            default -> random.nextInt(4);
        };
    }
}
