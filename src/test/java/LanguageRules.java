import java.io.IOException;
import java.io.PrintWriter;
import java.io.StringWriter;
import java.lang.reflect.Constructor;
import java.lang.reflect.Executable;
import java.lang.reflect.Field;
import java.lang.reflect.Method;
import java.lang.reflect.Modifier;
import java.net.URISyntaxException;
import java.nio.charset.StandardCharsets;
import java.nio.file.Files;
import java.nio.file.Path;
import java.util.ArrayList;
import java.util.HashMap;
import java.util.HashSet;
import java.util.LinkedHashMap;
import java.util.List;
import java.util.Map;
import java.util.Set;
import java.util.TreeSet;
import java.util.regex.Matcher;
import java.util.regex.Pattern;
import java.util.spi.ToolProvider;

/** LANGUAGE.md, as far as a program can look at it: the source's words, the classes' members, the depth of calls. */
public final class LanguageRules {
    private static final Path SOURCE = Path.of("src/main/java/MagazineDepot.java");
    private static final Set<String> LIBRARY = Set.of("Arrays.fill", "Math.min", "Math.max", "Long.bitCount", "System.arraycopy");
    private static final Set<String> FACE = Set.of("cache", "limit", "take", "give", "write", "word", "hold", "letGo", "interval",
        "drain", "reap", "state", "owner", "bytes", "page", "map", "of", "tally", "magazine", "lines", "ahead", "trip", "drawn", "feed",
        "trace", "run", "why", "dry", "tuned", "names", "image", "back", "bin", "lay", "at", "pour", "shift", "count");
    private static final Set<String> CONSTANTS = Set.of("BAD", "NOT", "FULL", "STATE", "VOID", "NO");
    private static int wrong;

    private static void check(boolean good, String what) {
        if (good) return;
        wrong++;
        System.out.println("not in the language: " + what);
    }

    public static void main(String[] args) throws IOException, URISyntaxException {
        String source = Files.readString(SOURCE, StandardCharsets.UTF_8);
        check(source.chars().allMatch(c -> c == '\n' || c >= 32 && c < 127), "a sign outside 32 to 126");
        String bare = bare(source);
        words(bare);
        methodLengths(bare);
        List<Class<?>> classes = new ArrayList<>(List.of(MagazineDepot.class.getDeclaredClasses()));
        check(classes.size() + 1 <= 12, "more than 12 classes: " + (classes.size() + 1));
        for (Class<?> c : classes) inside(c);
        face();
        depth(classes);
        System.out.println(wrong == 0 ? "the language is kept to" : wrong + " breaches of the language");
        if (wrong != 0) System.exit(1);
    }

    /** The source without comments and without what stands in quotes. */
    private static String bare(String source) {
        return source.replaceAll("(?s)/\\*.*?\\*/", " ").replaceAll("//[^\n]*", " ").replaceAll("'(\\\\.|[^'])'", "0")
            .replaceAll("\"(\\\\.|[^\"\\\\])*\"", "\"\"");
    }

    private static void words(String bare) {
        Matcher m = Pattern.compile("\\b(throw|throws|try|catch|finally|synchronized|assert|native|volatile|transient|package|yield|var"
            + "|hashCode|toString|NaN|Object|Exception|Error|Thread|Random|System\\.\\w+|\\w+Exact)\\b|->|::|@|\"").matcher(bare);
        while (m.find()) check(m.group().equals("System.arraycopy"), m.group());
        m = Pattern.compile("\\b(Math|Integer|Long|Arrays|System|String|List|Character|Boolean|Double)\\s*\\.\\s*(\\w+)").matcher(bare);
        while (m.find()) check(LIBRARY.contains(m.group(1) + "." + m.group(2)), m.group());
        m = Pattern.compile("\\bimport\\s+([\\w.*]+)").matcher(bare);
        while (m.find()) check(m.group(1).equals("java.util.Arrays"), m.group());
        check(!Pattern.compile("\\b(while|do)\\b").matcher(bare).find(), "a while whose end its own lines may not tell");
        check(!Pattern.compile("\\bstatic\\s*\\{").matcher(bare).find(), "a static initialiser");
    }

    private static void methodLengths(String bare) {
        String[] lines = bare.split("\n");
        Pattern head = Pattern.compile("^(    |        )(?! )(?!.*\\b(class|new|return|if|for|switch|else)\\b).*\\)\\s*\\{\\s*$");
        for (int i = 0; i < lines.length; i++) {
            Matcher m = head.matcher(lines[i]);
            if (!m.find()) continue;
            int end = i;
            while (end < lines.length && !lines[end].startsWith(m.group(1) + "}")) end++;
            check(end - i + 1 <= 60, "a method of " + (end - i + 1) + " lines: " + lines[i].trim());
        }
    }

    private static void inside(Class<?> c) {
        check(Modifier.isStatic(c.getModifiers()), c + " is not static");
        check(!Modifier.isPublic(c.getModifiers()) && !Modifier.isProtected(c.getModifiers()), c + " is seen outside");
        check(c.getDeclaredClasses().length == 0, "a class in " + c);
        for (Method m : c.getDeclaredMethods()) check(!FACE.contains(m.getName()), m + " has a name of the face");
        members(c);
    }

    private static void members(Class<?> c) {
        int fields = 0;
        for (Field f : c.getDeclaredFields()) {
            boolean isStatic = Modifier.isStatic(f.getModifiers());
            fields += isStatic ? 0 : 1;
            check(!isStatic || Modifier.isFinal(f.getModifiers()), f + " is static and not final");
        }
        check(fields <= 20, c + " has " + fields + " fields");
        List<Executable> all = new ArrayList<>(List.of(c.getDeclaredMethods()));
        all.addAll(List.of(c.getDeclaredConstructors()));
        for (Executable e : all) {
            check(e.getParameterCount() <= 7, e + " has too many parameters");
            check(!e.isSynthetic(), e + " is made by the compiler");
        }
    }

    private static void face() {
        Class<?> c = MagazineDepot.class;
        check(Modifier.isFinal(c.getModifiers()) && Modifier.isPublic(c.getModifiers()), "the class is not public and final");
        members(c);
        Set<String> told = new HashSet<>();
        for (Method m : c.getDeclaredMethods()) {
            boolean isPublic = Modifier.isPublic(m.getModifiers());
            check(isPublic || Modifier.isPrivate(m.getModifiers()), m + " is neither public nor private");
            check(isPublic == FACE.contains(m.getName()), m + " is not of the face, or is private with its name");
            if (isPublic) check(told.add(m.getName()), m + " is there twice");
        }
        check(told.equals(FACE), "methods missing: " + told);
        told.clear();
        for (Field f : c.getDeclaredFields()) {
            check(Modifier.isPublic(f.getModifiers()) || Modifier.isPrivate(f.getModifiers()), f + " is neither public nor private");
            if (Modifier.isPublic(f.getModifiers())) told.add(f.getName());
        }
        check(told.equals(CONSTANTS), "constants: " + told);
        Constructor<?>[] made = c.getDeclaredConstructors();
        check(made.length == 1 && Modifier.isPublic(made[0].getModifiers()) && made[0].getParameterCount() == 0, "the constructor");
    }

    // ---- calls: which method calls which, by javap

    private static void depth(List<Class<?>> classes) throws URISyntaxException {
        ToolProvider javap = ToolProvider.findFirst("javap").orElse(null);
        if (javap == null) {
            System.out.println("no javap here: the depth of calls is not looked at");
            return;
        }
        Path home = Path.of(MagazineDepot.class.getProtectionDomain().getCodeSource().getLocation().toURI());
        Map<String, Set<String>> calls = new LinkedHashMap<>();
        classes.add(MagazineDepot.class);
        for (Class<?> c : classes) read(javap, home.resolve(c.getName() + ".class"), c.getName(), calls);
        Map<String, Integer> depths = new HashMap<>();
        int deepest = 0;
        for (String m : calls.keySet()) deepest = Math.max(deepest, deep(m, calls, depths, new ArrayList<>()));
        System.out.println("calls go " + deepest + " deep");
        check(deepest <= 8, "calls go " + deepest + " deep");
    }

    private static void read(ToolProvider javap, Path file, String name, Map<String, Set<String>> calls) {
        StringWriter out = new StringWriter();
        javap.run(new PrintWriter(out), new PrintWriter(out), "-c", "-p", file.toString());
        String method = null;
        for (String line : out.toString().split("\n")) {
            Matcher head = Pattern.compile("^  \\S.*?(\\w[\\w$]*)\\(.*\\);").matcher(line);
            if (head.find()) {
                method = name + "." + (name.endsWith(head.group(1)) ? "<init>" : head.group(1));
                calls.computeIfAbsent(method, k -> new TreeSet<>());
            }
            Matcher call = Pattern.compile("invoke\\w+.*// (?:Interface)?Method (?:\"?([\\w/$]+)\"?\\.)?\"?([\\w<>]+)\"?:").matcher(line);
            if (method != null && call.find()) {
                String owner = call.group(1) == null ? name : call.group(1);
                if (owner.startsWith("MagazineDepot")) calls.get(method).add(owner + "." + call.group(2));
            }
        }
    }

    private static int deep(String m, Map<String, Set<String>> calls, Map<String, Integer> depths, List<String> above) {
        if (depths.containsKey(m)) return depths.get(m);
        check(!above.contains(m), "a recursion: " + above + " " + m);
        if (above.contains(m)) return 0;
        above.add(m);
        int most = 0;
        for (String called : calls.getOrDefault(m, Set.of())) most = Math.max(most, deep(called, calls, depths, above));
        above.remove(m);
        if (most >= 8) System.out.println("    " + (most + 1) + " deep: " + m);
        depths.put(m, most + 1);
        return most + 1;
    }
}
