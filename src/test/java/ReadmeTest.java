import java.io.IOException;
import java.lang.reflect.Method;
import java.lang.reflect.Modifier;
import java.net.URL;
import java.net.URLClassLoader;
import java.nio.file.Files;
import java.nio.file.Path;
import java.util.Comparator;
import java.util.List;
import java.util.Set;
import java.util.TreeSet;
import java.util.regex.Matcher;
import java.util.regex.Pattern;
import java.util.stream.Collectors;
import java.util.stream.Stream;
import javax.tools.JavaCompiler;
import javax.tools.ToolProvider;

/**
 * Whether README.md says what the class answers: its code is made into one program in which each
 * call is compared with what stands behind it, and that program is compiled and run.
 */
public final class ReadmeTest {
    private static final Path PAGE = Path.of("README.md");
    private static final String PROGRAM = "ReadmeCode";
    private static final Pattern BLOCK = Pattern.compile("```java\n(.*?)```", Pattern.DOTALL);
    /** A call on an object, and the answer with which the words behind it begin. */
    private static final Pattern CALL =
        Pattern.compile("\\s*((?:x|new PortageTrips\\(\\))\\.(\\w+)\\(.*\\)); *// (-?\\w+): .*");

    private static int checks;
    private static int wrong;

    private static void miss(String what) {
        wrong++;
        System.out.println(what);
    }

    /** Called by the program that is made of the page. */
    public static void due(String call, long got, long want) {
        checks++;
        if (got != want) {
            miss("README.md: " + call + " answers " + got + ", the page says " + want);
        }
    }

    private static String codeOf(String page) {
        StringBuilder code = new StringBuilder();
        Matcher block = BLOCK.matcher(page);
        while (block.find()) {
            code.append(block.group(1));
        }
        return code.toString();
    }

    /** The page's code with each call compared; the names of the calls are put into a set. */
    private static String programOf(String code, Set<String> names) {
        StringBuilder program = new StringBuilder("public final class " + PROGRAM + " {\n"
            + "static final int UNKNOWN = -1, OUTSIDE = -2, STATE = -3, FULL = -4, NONE = -9;\n"
            + "static final long LOST = Long.MIN_VALUE;\n"
            + "public static void run() {\n");
        for (String line : code.split("\n")) {
            Matcher call = CALL.matcher(line);
            if (call.matches()) {
                names.add(call.group(2));
                program.append("ReadmeTest.due(\"").append(call.group(1)).append("\", ")
                    .append(call.group(1)).append(", ").append(call.group(3)).append(");\n");
            } else {
                if (line.contains("//") || line.matches("\\s*x\\..*")) {
                    miss("README.md tells no answer that can be compared: " + line.trim());
                }
                program.append(line).append('\n');
            }
        }
        return program.append("}\n}\n").toString();
    }

    private static void run(String program, Path room) throws Exception {
        Path source = room.resolve(PROGRAM + ".java");
        Files.writeString(source, program);
        JavaCompiler compiler = ToolProvider.getSystemJavaCompiler();
        String classes = System.getProperty("java.class.path");
        if (compiler.run(null, null, null, "-cp", classes, "-d", room.toString(), source.toString()) != 0) {
            miss("the code of README.md does not compile");
            return;
        }
        try (URLClassLoader loader = new URLClassLoader(new URL[] {room.toUri().toURL()})) {
            loader.loadClass(PROGRAM).getMethod("run").invoke(null);
        }
    }

    private static void lookForCallsLeftOut(Set<String> names) {
        for (Method m : PortageTrips.class.getDeclaredMethods()) {
            if (Modifier.isPublic(m.getModifiers()) && !names.contains(m.getName())) {
                miss("README.md does not show " + m.getName());
            }
        }
    }

    private static void remove(Path room) throws IOException {
        List<Path> all;
        try (Stream<Path> files = Files.walk(room)) {
            all = files.sorted(Comparator.reverseOrder()).collect(Collectors.toList());
        }
        for (Path file : all) {
            Files.delete(file);
        }
    }

    public static void main(String[] args) throws Exception {
        Set<String> names = new TreeSet<>();
        String program = programOf(codeOf(Files.readString(PAGE)), names);
        Path room = Files.createTempDirectory("readme");
        try {
            run(program, room);
        } finally {
            remove(room);
        }
        lookForCallsLeftOut(names);
        if (checks == 0) {
            miss("README.md has no call with an answer");
        }
        System.out.println(checks + " answers of README.md compared, " + wrong + " things amiss");
        if (wrong != 0) {
            System.exit(1);
        }
    }
}
