import java.lang.reflect.Constructor;
import java.lang.reflect.Field;
import java.lang.reflect.Method;
import java.lang.reflect.Modifier;
import java.nio.file.Files;
import java.nio.file.Path;
import java.util.Arrays;
import java.util.Set;
import java.util.TreeSet;
import java.util.regex.Matcher;
import java.util.regex.Pattern;

/** The document's face, and the rules of LANGUAGE.md: what the compiled class shows, and what its source does. */
public final class LanguageTest {
    private static final String SOURCE = "src/main/java/CensusNight.java";
    private static final int MOST_CLASSES = 12;
    private static final int MOST_FIELDS = 20;

    private final Due due = new Due();

    public static void main(String[] args) throws Exception {
        LanguageTest test = new LanguageTest();
        test.face(Files.readString(Path.of("../shared/DOC.md")));
        test.names();
        test.nested();
        test.signs(Files.readString(Path.of(SOURCE)));
        new LanguageScan(test.due, Path.of(SOURCE)).play();
        test.due.end();
    }

    /** The members as the document writes them out, without the parameters' names. */
    private static Set<String> documented(String document) {
        Set<String> face = new TreeSet<>();
        int from = document.indexOf("```java");
        String block = document.substring(from, document.indexOf("```\n", from + 1));
        Matcher line = Pattern.compile("    public ([^;]*);").matcher(block);
        while (line.find()) {
            face.add(line.group(1).replaceAll("(int|long|boolean) \\w+([,)])", "$1$2"));
        }
        return face;
    }

    private void face(String document) {
        due.part("rule 1, the face");
        Class<?> type = CensusNight.class;
        due.yes("public and final", type.getModifiers() == (Modifier.PUBLIC | Modifier.FINAL));
        due.yes("no package", type.getPackageName().isEmpty());
        Set<String> open = new TreeSet<>();
        for (Method method : type.getDeclaredMethods()) {
            if (!Modifier.isPrivate(method.getModifiers())) {
                due.yes("public: " + method, method.getModifiers() == Modifier.PUBLIC);
                open.add(method.getReturnType() + " " + method.getName() + types(method.getParameterTypes()));
            }
        }
        for (Field field : type.getDeclaredFields()) {
            if (!Modifier.isPrivate(field.getModifiers())) {
                open.add(Modifier.toString(field.getModifiers()).replace("public ", "") + " " + field.getType() + " "
                        + field.getName() + " = " + CensusNight.NONE);
            }
        }
        for (Constructor<?> maker : type.getDeclaredConstructors()) {
            due.yes("public: " + maker, maker.getModifiers() == Modifier.PUBLIC);
            open.add(maker.getName() + types(maker.getParameterTypes()));
        }
        Set<String> want = documented(document);
        due.eq("members of the document's face", want.size(), 33);
        due.yes("the face is " + open + ", due is " + want, open.equals(want));
    }

    private static String types(Class<?>[] types) {
        return Arrays.toString(types).replace('[', '(').replace(']', ')');
    }

    private static Set<Class<?>> allClasses() {
        Set<Class<?>> all = new TreeSet<>((a, b) -> a.getName().compareTo(b.getName()));
        all.add(CensusNight.class);
        all.addAll(Arrays.asList(CensusNight.class.getDeclaredClasses()));
        return all;
    }

    private void names() {
        due.part("rule 1, names");
        Set<String> open = new TreeSet<>();
        for (Method method : CensusNight.class.getMethods()) {
            open.add(method.getName());
        }
        for (Class<?> each : allClasses()) {
            for (Method method : each.getDeclaredMethods()) {
                boolean own = each == CensusNight.class && Modifier.isPublic(method.getModifiers());
                due.yes("a name of the face: " + method, own || !open.contains(method.getName()));
            }
        }
    }

    private void nested() {
        due.part("rules 2 and 11, classes");
        due.yes("classes: " + allClasses().size(), allClasses().size() <= MOST_CLASSES);
        for (Class<?> each : allClasses()) {
            int fields = 0;
            for (Field field : each.getDeclaredFields()) {
                fields += Modifier.isStatic(field.getModifiers()) ? 0 : 1;
            }
            due.yes("fields of " + each + ": " + fields, fields <= MOST_FIELDS);
            if (each != CensusNight.class) {
                due.yes("static: " + each, Modifier.isStatic(each.getModifiers()));
                due.yes("not open: " + each, (each.getModifiers() & (Modifier.PUBLIC | Modifier.PROTECTED)) == 0);
                due.eq("deeper classes of " + each, each.getDeclaredClasses().length, 0);
            }
        }
    }

    private void signs(String text) {
        due.part("rule 4, signs");
        String[] lines = text.split("\n");
        for (int n = 0; n < lines.length; n++) {
            due.yes("signs 1 to 127: line " + (n + 1), lines[n].chars().allMatch(c -> c > 0 && c < 128));
        }
    }
}
