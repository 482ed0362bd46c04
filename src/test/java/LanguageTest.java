import java.lang.reflect.Constructor;
import java.lang.reflect.Field;
import java.lang.reflect.Method;
import java.lang.reflect.Modifier;
import java.nio.file.Files;
import java.nio.file.Path;
import java.util.Arrays;
import java.util.Set;
import java.util.TreeSet;
import java.util.regex.Matcher;
import java.util.regex.Pattern;

/** The document's face, and those rules of LANGUAGE.md that a glance at the class can tell. */
public final class LanguageTest {
    private static final String[] FACE = {
        "int door(int,int,int)", "int near(int,int)", "int row(int,int,int)", "int set(int,int,long)",
        "int copy(int,int,int,int,int)", "long element(int,int)", "int show(int,int)", "int holds(int)",
        "int blockIn(int)", "int law(int)", "int fault()", "int truth(int,int)", "int paper(int)",
        "int knock(int,int)", "int proxy(int,int)", "int twice(int,int,int,int)", "int fill()", "int from(int)",
        "int about(int,int)", "int age(int,int)", "int count(int,int,boolean)", "int bestHour(int)", "int cut(int)",
        "int walk(int)", "int second(int,int)", "long right(boolean)", "int heap()", "int table()",
        "int told(int,int)", "int could(int,int,boolean)", "int status(int)"};
    private static final String[] BARRED = {
        "\\b(throw|throws|try|catch|finally|synchronized|assert|protected|native|volatile|transient)\\b",
        "->", "::", "\\w+Exact\\s*\\(", "\\bvar\\b", "@", "\\bpackage\\b", "\\bThread\\b", "\\bSystem\\.(?!arraycopy\\b)",
        "\\bObject\\b", "\\bmain\\s*\\(", "\\bRandom\\b", "\\bhashCode\\b", "\\btoString\\b", "import (?!java\\.util\\.Arrays;)"};

    private final Due due = new Due();

    public static void main(String[] args) throws Exception {
        LanguageTest test = new LanguageTest();
        test.face();
        test.nested();
        test.source(Files.readString(Path.of("src/main/java/CensusNight.java")));
        test.due.end();
    }

    private void face() {
        due.part("face");
        Class<?> type = CensusNight.class;
        due.yes("public and final", Modifier.isPublic(type.getModifiers()) && Modifier.isFinal(type.getModifiers()));
        Set<String> open = new TreeSet<>();
        Set<String> openNames = new TreeSet<>();
        for (Method method : type.getDeclaredMethods()) {
            if (!Modifier.isPrivate(method.getModifiers())) {
                open.add(signature(method));
                openNames.add(method.getName());
                due.yes("public: " + method, method.getModifiers() == Modifier.PUBLIC);
            }
        }
        Set<String> want = new TreeSet<>(Arrays.asList(FACE));
        due.yes("the methods are " + open + ", due are " + want, open.equals(want));
        for (Field field : type.getDeclaredFields()) {
            boolean none = field.getName().equals("NONE");
            due.yes("private: " + field, none || Modifier.isPrivate(field.getModifiers()));
        }
        Constructor<?>[] makers = type.getDeclaredConstructors();
        due.eq("constructors", makers.length, 1);
        due.yes("public constructor", makers[0].getModifiers() == Modifier.PUBLIC && makers[0].getParameterCount() == 0);
        for (Class<?> each : allClasses()) {
            for (Method method : each.getDeclaredMethods()) {
                boolean own = each == type && Modifier.isPublic(method.getModifiers());
                due.yes("name of the face: " + method, own || !openNames.contains(method.getName()));
                due.yes("seven parameters: " + method, method.getParameterCount() <= 7);
            }
        }
    }

    private static String signature(Method method) {
        StringBuilder text = new StringBuilder();
        text.append(method.getReturnType()).append(' ').append(method.getName()).append('(');
        for (Class<?> type : method.getParameterTypes()) {
            text.append(text.charAt(text.length() - 1) == '(' ? "" : ",").append(type);
        }
        return text.append(')').toString();
    }

    private static Set<Class<?>> allClasses() {
        Set<Class<?>> all = new TreeSet<>((a, b) -> a.getName().compareTo(b.getName()));
        all.add(CensusNight.class);
        all.addAll(Arrays.asList(CensusNight.class.getDeclaredClasses()));
        return all;
    }

    private void nested() {
        due.part("classes");
        due.yes("twelve classes at most", allClasses().size() <= 12);
        for (Class<?> each : allClasses()) {
            if (each != CensusNight.class) {
                due.yes("static: " + each, Modifier.isStatic(each.getModifiers()));
                due.yes("not public: " + each, !Modifier.isPublic(each.getModifiers()));
                due.eq("deeper classes of " + each, each.getDeclaredClasses().length, 0);
            }
            int fields = 0;
            for (Field field : each.getDeclaredFields()) {
                boolean fixed = Modifier.isStatic(field.getModifiers());
                fields += fixed ? 0 : 1;
                due.yes("final: " + field, !fixed || Modifier.isFinal(field.getModifiers()));
            }
            due.yes("twenty fields at most: " + each, fields <= 20);
        }
    }

    private void source(String text) {
        due.part("source");
        String code = text.replaceAll("(?s)/\\*.*?\\*/", "").replaceAll("//[^\n]*", "").replaceAll("\"[^\"]*\"", "\"\"");
        for (String barred : BARRED) {
            Matcher found = Pattern.compile(barred).matcher(code);
            due.yes("barred: " + barred, !found.find());
        }
        int begun = -1;
        String[] lines = text.split("\n");
        for (int n = 0; n < lines.length; n++) {
            if (lines[n].matches("(    |        )\\S.*\\) \\{")) {
                begun = n;
            }
            if (begun >= 0 && lines[n].matches("(    |        )\\}")) {
                due.yes("sixty lines at most: " + lines[begun], n - begun < 60);
                begun = -1;
            }
            due.yes("signs 1 to 127: line " + (n + 1), lines[n].chars().allMatch(c -> c > 0 && c < 128));
        }
    }
}
