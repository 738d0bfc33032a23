import java.io.IOException;
import java.net.URL;
import java.net.URLClassLoader;
import java.nio.charset.StandardCharsets;
import java.nio.file.Files;
import java.nio.file.Path;
import java.util.ArrayList;
import java.util.List;
import java.util.regex.Matcher;
import java.util.regex.Pattern;
import javax.tools.ToolProvider;

/** The example of README.md compiles as it stands, and each call answers what stands behind it. */
public final class ReadmeTest {
    private static final Path README = Path.of("README.md");
    private static final Path FOLDER = Path.of("build", "readme");
    private static final String EXAMPLE = "ReadmeExample";
    private static final String BEGINNING = "EntityDesk desk = new EntityDesk();";
    private static final Pattern CALL =
        Pattern.compile("(desk\\.(\\w+)\\(.*\\)); *// (true|false|-?[0-9]+)(: .*)?");
    private static final String[] FACE =
        {"put", "declare", "expand", "place", "given", "text", "count"};

    private static int answered = 0;
    private static int wrong = 0;

    public static void main(String[] args) throws Exception {
        List<String> example = exampleIn(Files.readAllLines(README, StandardCharsets.UTF_8));
        lookAtBeginning(example);
        lookForFace(example);
        if (compiles(programOf(example))) {
            run();
            due("calls that answered", answered, String.valueOf(example.size() - 1));
        }
        System.out.println(wrong == 0 ? "README.md is as due" : wrong + " things of README.md are not as due");
        if (wrong != 0) {
            System.exit(1);
        }
    }

    private static void tell(String what) {
        wrong++;
        System.out.println(what);
    }

    private static void due(String what, Object got, String want) {
        if (!want.equals(String.valueOf(got))) {
            tell(what + " answered " + got + ", README.md says " + want);
        }
    }

    /** The example's program calls this for each of its calls. */
    public static void answer(String call, Object got, String want) {
        answered++;
        due(call, got, want);
    }

    /** The lines of all blocks of Java. */
    private static List<String> exampleIn(List<String> readme) {
        List<String> example = new ArrayList<>();
        boolean within = false;
        for (String line : readme) {
            if (line.startsWith("```")) {
                within = line.equals("```java");
            } else if (within && !line.isBlank()) {
                example.add(line.strip());
            }
        }
        return example;
    }

    private static void lookAtBeginning(List<String> example) {
        if (example.isEmpty() || !example.get(0).equals(BEGINNING)) {
            tell("the example does not begin with " + BEGINNING);
        }
    }

    private static void lookForFace(List<String> example) {
        for (String name : FACE) {
            if (example.stream().noneMatch(line -> line.startsWith("desk." + name + "("))) {
                tell("the example does not call " + name);
            }
        }
    }

    private static String programOf(List<String> example) {
        StringBuilder program = new StringBuilder();
        program.append("public final class ").append(EXAMPLE).append(" {\n");
        program.append("public static void main(String[] args) {\n");
        for (String line : example) {
            program.append(statementOf(line)).append('\n');
        }
        return program.append("}\n}\n").toString();
    }

    private static String statementOf(String line) {
        Matcher call = CALL.matcher(line);
        if (call.matches()) {
            return "ReadmeTest.answer(\"" + call.group(1) + "\", " + call.group(1) + ", \"" + call.group(3) + "\");";
        }
        if (!line.equals(BEGINNING)) {
            tell("no call with its answer: " + line);
        }
        return line;
    }

    private static boolean compiles(String program) throws IOException {
        Files.createDirectories(FOLDER);
        Path source = FOLDER.resolve(EXAMPLE + ".java");
        Files.writeString(source, program);
        int ended = ToolProvider.getSystemJavaCompiler().run(null, null, null, "--release", "17",
            "-cp", System.getProperty("java.class.path"), "-d", FOLDER.toString(), source.toString());
        due("javac of the example", ended, "0");
        return ended == 0;
    }

    private static void run() throws Exception {
        URL[] here = {FOLDER.toUri().toURL()};
        try (URLClassLoader loader = new URLClassLoader(here, ReadmeTest.class.getClassLoader())) {
            loader.loadClass(EXAMPLE).getMethod("main", String[].class).invoke(null, (Object) new String[0]);
        }
    }
}
