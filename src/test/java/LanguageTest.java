import java.io.IOException;
import java.lang.management.ManagementFactory;
import java.lang.reflect.Constructor;
import java.lang.reflect.Field;
import java.lang.reflect.Method;
import java.lang.reflect.Modifier;
import java.nio.file.Files;
import java.nio.file.Path;
import java.util.HashSet;
import java.util.List;
import java.util.Set;
import java.util.TreeSet;
import java.util.regex.Matcher;
import java.util.regex.Pattern;

/** The rules of LANGUAGE.md that can be read off the source and the class, and that calls make no objects. */
public final class LanguageTest {
    private static final Set<String> METHODS = Set.of("feed(int,long)", "town()", "laws()", "fault()", "told(int)", "house(int,int)",
        "sleeper(int,int)", "matter(int,int)", "noise(int,int)", "lay(int,int,int)", "rise(int)", "night()", "run(int)", "begin()",
        "soonest(int,int)", "cheapest(int,int)", "likeliest(int,int)", "together(int)", "stopped(int,int)", "tried(int,int)",
        "let(int,int,int)", "write(int,int,int)", "tear()", "judge(int)", "seed(int)", "keep(int)", "goBack(int)");
    private static final Set<String> CONSTANTS = Set.of("NONE", "UNKNOWN", "OUTSIDE", "NOT", "FULL");

    public static void main(String[] args) throws IOException {
        face();
        classesInside();
        source(Files.readString(Path.of("src/main/java/SleptMatters.java")));
        noObjectsByCalls();
        Due.end();
    }

    private static void rule(String what, boolean holds) {
        Due.is(what, holds ? 1 : 0, 1);
    }

    private static void face() {
        Class<?> face = SleptMatters.class;
        rule("public and final", Modifier.isPublic(face.getModifiers()) && Modifier.isFinal(face.getModifiers()));
        Set<String> methods = new TreeSet<>();
        Set<String> names = new HashSet<>();
        for (Method m : face.getDeclaredMethods()) {
            if (Modifier.isPrivate(m.getModifiers())) continue;
            rule(m.getName() + " is public and answers an int", Modifier.isPublic(m.getModifiers()) && m.getReturnType() == int.class);
            StringBuilder shape = new StringBuilder(m.getName()).append('(');
            for (Class<?> p : m.getParameterTypes()) shape.append(shape.toString().endsWith("(") ? "" : ",").append(p.getName());
            methods.add(shape.append(')').toString());
            names.add(m.getName());
        }
        rule("the methods of the document: " + methods, methods.equals(METHODS));
        for (Method m : face.getDeclaredMethods()) {
            if (Modifier.isPrivate(m.getModifiers())) rule("private " + m.getName(), !names.contains(m.getName()));
        }
        for (Field f : face.getDeclaredFields()) {
            rule("field " + f.getName(), Modifier.isPrivate(f.getModifiers()) != CONSTANTS.contains(f.getName()));
            if (Modifier.isStatic(f.getModifiers())) rule("static " + f.getName(), Modifier.isFinal(f.getModifiers()));
        }
        Constructor<?>[] made = face.getDeclaredConstructors();
        rule("one public constructor", made.length == 1 && Modifier.isPublic(made[0].getModifiers()) && made[0].getParameterCount() == 0);
    }

    private static void classesInside() {
        Class<?>[] inside = SleptMatters.class.getDeclaredClasses();
        rule("some twelve classes", inside.length <= 11);
        for (Class<?> c : inside) {
            rule(c.getName() + " is static", Modifier.isStatic(c.getModifiers()) && !Modifier.isPublic(c.getModifiers()));
            int fields = 0;
            for (Field f : c.getDeclaredFields()) if (!Modifier.isStatic(f.getModifiers())) fields++;
            rule(c.getName() + " has some twenty fields", fields <= 20);
            for (Method m : c.getDeclaredMethods()) {
                rule(m + " has seven parameters at most", m.getParameterCount() <= 7);
                for (String face : METHODS) rule(m + " bears its own name", !face.startsWith(m.getName() + "("));
            }
        }
    }

    private static void source(String source) {
        String code = source.replaceAll("(?s)/\\*.*?\\*/", " ").replaceAll("//[^\n]*", " ");
        for (String word : List.of("throw", "throws", "try", "catch", "synchronized", "assert", "package", "protected", "instanceof", "Random",
            "Thread", "Object", "Exception", "toString", "hashCode", "clone", "while \\(true", "null")) {
            rule("no " + word, !Pattern.compile("\\b" + word + "\\b").matcher(code).find());
        }
        rule("no lambda or method reference", !code.contains("->") && !code.contains("::"));
        Matcher imports = Pattern.compile("import ([^;]*);").matcher(code);
        while (imports.find()) rule("import " + imports.group(1), imports.group(1).equals("java.util.Arrays"));
        Matcher library = Pattern.compile("\\b(Arrays|Math|Integer|Long|System)\\.(\\w+)").matcher(code);
        Set<String> listed = Set.of("Arrays.fill", "Math.max", "Math.min", "Integer.bitCount", "System.arraycopy");
        while (library.find()) rule(library.group(), listed.contains(library.group()));
        rule("signs 9 to 126", source.chars().allMatch(c -> c == '\n' || c >= ' ' && c < 127));
        methodsAreShort(source);
    }

    private static void methodsAreShort(String source) {
        String[] lines = source.split("\n");
        for (int i = 0; i < lines.length; i++) {
            Matcher head = Pattern.compile("^( {4}| {8})(?! |return|else|for|if|switch)[\\w\\[\\] ]+\\(.*\\) \\{$").matcher(lines[i]);
            if (!head.find()) continue;
            int end = i;
            while (!lines[end].equals(head.group(1) + "}")) end++;
            rule("short: " + lines[i].trim(), end - i <= 60);
        }
    }

    private static void noObjectsByCalls() {
        var threads = (com.sun.management.ThreadMXBean) ManagementFactory.getThreadMXBean();
        if (!threads.isThreadAllocatedMemorySupported()) return;
        SleptMatters x = new SleptMatters();
        String town = "house0 1;house1 2;house2 1;house3 1;sleeper3 50 5;sleeper9 50 5;sleeper5 50 1;sleeper0 99 9;noise0 2 9 4;matter0 99 9 1;matter1 99 9 1;";
        byte[] bytes = town.getBytes(java.nio.charset.StandardCharsets.ISO_8859_1);
        everyCall(x, bytes);
        long before = threads.getThreadAllocatedBytes(Thread.currentThread().getId());
        for (int i = 0; i < 20; i++) everyCall(x, bytes);
        long made = threads.getThreadAllocatedBytes(Thread.currentThread().getId()) - before;
        // Asking for the number makes some small objects itself.
        rule("20 times every call made " + made + " bytes", made < 2000);
    }

    private static void everyCall(SleptMatters x, byte[] bytes) {
        for (int at = 0; at < bytes.length; at += 8) {
            int n = Math.min(8, bytes.length - at);
            x.feed(n, Due.packed(bytes, at, n));
        }
        x.town();
        x.feed(8, 0x6e69676874732034L);
        x.feed(1, ';');
        x.laws();
        for (int i = 0; i < 3; i++) {
            x.told(i + 8); x.house(i, 2); x.sleeper(i, 3); x.matter(i, 8); x.noise(i, i); x.fault(); x.lay(i, i, i); x.rise(i);
            x.keep(0); x.night(); x.run(3); x.goBack(0); x.soonest(i, 3); x.cheapest(i, 2); x.likeliest(i, 2); x.together(2);
            x.stopped(i, 1); x.tried(i, 3); x.let(i, 3, 1); x.write(i, i, i); x.judge(i); x.seed(i); x.begin(); x.tear();
        }
    }
}
