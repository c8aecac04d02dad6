import java.io.IOException;
import java.io.PrintWriter;
import java.io.StringWriter;
import java.lang.reflect.Field;
import java.lang.reflect.InvocationTargetException;
import java.lang.reflect.Method;
import java.lang.reflect.Modifier;
import java.net.URISyntaxException;
import java.net.URL;
import java.net.URLClassLoader;
import java.nio.charset.StandardCharsets;
import java.nio.file.Files;
import java.nio.file.Path;
import java.util.ArrayList;
import java.util.List;
import java.util.regex.Matcher;
import java.util.regex.Pattern;
import java.util.spi.ToolProvider;

/**
 * What README.md shows of calls and answers is what the class answers: its pieces of Java are compiled as they
 * stand there, and each number behind // is compared with what the call ahead of it answered.
 */
public final class Readme {
    private static final Pattern PIECE = Pattern.compile("(?ms)^```java\n(.*?)^```$");
    private static final Pattern SHOWN = Pattern.compile("(?:(int|long) (\\w+) = )?(x\\.\\w+\\(.*\\));\\s*// (-?\\d+)(?:: .*)?");
    private static final Pattern PLAIN = Pattern.compile("[^/]*[;{}]");
    private static int wrong;
    private static int shown;

    public static void main(String[] args) throws IOException, URISyntaxException, ReflectiveOperationException {
        String page = Files.readString(Path.of("README.md"), StandardCharsets.UTF_8);
        namesAll(page);
        Path home = Path.of(MagazineDepot.class.getProtectionDomain().getCodeSource().getLocation().toURI());
        run(home, program(page));
        check(shown > 0, "no call is shown");
        System.out.println(wrong == 0 ? "all " + shown + " calls answer as shown" : wrong + " things are not as shown");
        if (wrong != 0) System.exit(1);
    }

    private static void check(boolean good, String what) {
        if (good) return;
        wrong++;
        System.out.println("README.md: " + what);
    }

    /** What the program that is made of the page calls for each answer shown. */
    public static void due(String line, long got, long due) {
        shown++;
        check(got == due, line + " answered " + got);
    }

    private static void namesAll(String page) {
        for (Method m : MagazineDepot.class.getDeclaredMethods()) {
            boolean isNamed = page.contains("`" + m.getName() + "`");
            check(!Modifier.isPublic(m.getModifiers()) || isNamed, "does not name the call " + m.getName());
        }
        for (Field f : MagazineDepot.class.getDeclaredFields()) {
            boolean isNamed = page.contains("`" + f.getName() + "`");
            check(!Modifier.isPublic(f.getModifiers()) || isNamed, "does not name the constant " + f.getName());
        }
    }

    private static String program(String page) {
        List<String> methods = new ArrayList<>();
        Matcher piece = PIECE.matcher(page);
        while (piece.find()) {
            StringBuilder body = new StringBuilder();
            for (String line : piece.group(1).split("\n")) body.append(told(line)).append('\n');
            methods.add("public static void piece" + methods.size() + "() {\n" + body + "}\n");
        }
        return "public final class Shown {\n" + String.join("\n", methods) + "}\n";
    }

    private static String told(String line) {
        Matcher m = SHOWN.matcher(line);
        if (!m.matches()) {
            check(PLAIN.matcher(line).matches(), "a line that shows no answer as this test reads it: " + line);
            return line;
        }
        String quoted = "\"" + line.replace("\\", "\\\\").replace("\"", "\\\"") + "\"";
        String due = ", " + m.group(4) + "L);";
        if (m.group(1) == null) return "Readme.due(" + quoted + ", " + m.group(3) + due;
        return m.group(1) + " " + m.group(2) + " = " + m.group(3) + "; Readme.due(" + quoted + ", " + m.group(2) + due;
    }

    private static void run(Path home, String program) throws IOException, ReflectiveOperationException {
        Path dir = Files.createDirectories(home.resolve("shown"));
        Path file = dir.resolve("Shown.java");
        Files.writeString(file, program, StandardCharsets.UTF_8);
        StringWriter out = new StringWriter();
        PrintWriter to = new PrintWriter(out);
        int code = ToolProvider.findFirst("javac").orElseThrow().run(to, to, "-nowarn", "-cp", home.toString(), "-d", dir.toString(), file.toString());
        check(code == 0, "its Java is none: " + out);
        if (code != 0) return;
        try (URLClassLoader loader = new URLClassLoader(new URL[] {dir.toUri().toURL()}, Readme.class.getClassLoader())) {
            for (Method m : loader.loadClass("Shown").getDeclaredMethods()) {
                try {
                    m.invoke(null);
                } catch (InvocationTargetException e) {
                    check(false, m.getName() + " throws " + e.getCause());
                }
            }
        }
    }
}
