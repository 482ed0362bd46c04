import java.lang.reflect.Method;
import java.lang.reflect.Modifier;
import java.net.URL;
import java.net.URLClassLoader;
import java.nio.file.Files;
import java.nio.file.Path;
import java.util.ArrayList;
import java.util.List;
import java.util.regex.Matcher;
import java.util.regex.Pattern;
import javax.tools.ToolProvider;

/** The program that README.md shows: it compiles as it stands there, and each call answers what is written behind it. */
public final class ReadmeTest {
    private static final Pattern BLOCK = Pattern.compile("(?s)```java\n(.*?)```");
    private static final Pattern ANSWERED = Pattern.compile("(census\\.\\w+\\(.*\\));\\s*// (-?\\d+)\\b.*");
    private static final Path PLACE = Path.of("build", "readme");

    private final Due due = new Due();

    public static void main(String[] args) throws Exception {
        ReadmeTest test = new ReadmeTest();
        test.due.part("README.md");
        String program = program(Files.readString(Path.of("README.md")));
        test.showsEachCall(program);
        test.compilesAsItStands(program);
        test.answers(program);
        test.due.end();
    }

    private static String program(String readme) {
        StringBuilder program = new StringBuilder();
        Matcher block = BLOCK.matcher(readme);
        while (block.find()) {
            program.append(block.group(1));
        }
        return program.toString();
    }

    private void showsEachCall(String program) {
        for (Method method : CensusNight.class.getDeclaredMethods()) {
            if (Modifier.isPublic(method.getModifiers())) {
                due.yes("shows " + method.getName(), program.contains("census." + method.getName() + "("));
            }
        }
    }

    private void compilesAsItStands(String program) throws Exception {
        String method = "public static void main(String[] args) {\n" + program + "}\n";
        due.yes("it compiles as it stands", compiles("ReadmeProgram", method));
    }

    /** The same program, in which each answer is kept. */
    private void answers(String program) throws Exception {
        List<String> calls = new ArrayList<>();
        List<Long> wants = new ArrayList<>();
        StringBuilder keeping = new StringBuilder("public static void keep(java.util.List<Long> answers) {\n");
        for (String line : program.split("\n")) {
            Matcher answered = ANSWERED.matcher(line);
            if (answered.matches()) {
                calls.add(answered.group(1));
                wants.add(Long.parseLong(answered.group(2)));
                keeping.append("answers.add((long) ").append(answered.group(1)).append(");\n");
            } else {
                keeping.append(line).append('\n');
            }
        }
        List<Long> answers = new ArrayList<>();
        if (compiles("ReadmeAnswers", keeping.append("}\n").toString())) {
            try (URLClassLoader loader = new URLClassLoader(new URL[] {PLACE.toUri().toURL()})) {
                loader.loadClass("ReadmeAnswers").getMethod("keep", List.class).invoke(null, answers);
            }
        }
        due.eq("answers that were kept", answers.size(), calls.size());
        for (int n = 0; n < answers.size() && n < calls.size(); n++) {
            due.eq(calls.get(n), answers.get(n), wants.get(n));
        }
    }

    private static boolean compiles(String name, String method) throws Exception {
        Files.createDirectories(PLACE);
        Path file = PLACE.resolve(name + ".java");
        Files.writeString(file, "public final class " + name + " {\n" + method + "}\n");
        String classes = System.getProperty("java.class.path");
        return ToolProvider.getSystemJavaCompiler().run(null, System.out, System.out, "-d", PLACE.toString(), "-cp", classes,
                file.toString()) == 0;
    }
}
