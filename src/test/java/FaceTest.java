import java.io.IOException;
import java.lang.reflect.Constructor;
import java.lang.reflect.Field;
import java.lang.reflect.Method;
import java.lang.reflect.Modifier;
import java.lang.reflect.Parameter;
import java.nio.file.Files;
import java.nio.file.Path;
import java.util.ArrayList;
import java.util.Arrays;
import java.util.List;
import java.util.TreeSet;
import java.util.regex.Matcher;
import java.util.regex.Pattern;

/** The public face as the document has it, and the plainest rules of LANGUAGE.md. */
public final class FaceTest {
    private static final Path DOC = Path.of("../shared/DOC.md");
    private static final Path SOURCE = Path.of("src/main/java/SleepWork.java");

    private FaceTest() { }

    public static void main(String[] args) throws IOException {
        face();
        nestedClasses();
        words();
        methodLengths();
        Check.end();
    }

    private static void face() throws IOException {
        TreeSet<String> due = new TreeSet<>();
        Matcher m = Pattern.compile("public (int|boolean) (\\w+)\\(([^)]*)\\);").matcher(Files.readString(DOC));
        while (m.find()) {
            due.add(m.group(1) + " " + m.group(2) + "(" + m.group(3).replaceAll(" \\w+(,|$)", "$1") + ")");
        }
        TreeSet<String> there = new TreeSet<>();
        TreeSet<String> publicNames = new TreeSet<>();
        List<String> privateNames = new ArrayList<>();
        for (Method method : SleepWork.class.getDeclaredMethods()) {
            if (Modifier.isPublic(method.getModifiers())) {
                List<String> types = new ArrayList<>();
                for (Parameter p : method.getParameters()) {
                    types.add(p.getType().toString());
                }
                there.add(method.getReturnType() + " " + method.getName() + "(" + String.join(", ", types) + ")");
                publicNames.add(method.getName());
            } else {
                Check.due("private: " + method, Modifier.isPrivate(method.getModifiers()), true);
                privateNames.add(method.getName());
            }
        }
        Check.due("methods of the document", due.size(), 32);
        Check.due("the face " + due + " is " + there, due.equals(there), true);
        for (Class<?> nested : SleepWork.class.getDeclaredClasses()) {
            for (Method method : nested.getDeclaredMethods()) {
                privateNames.add(method.getName());
            }
        }
        for (String name : privateNames) {
            Check.due("no second " + name, publicNames.contains(name), false);
        }
        for (Field field : SleepWork.class.getDeclaredFields()) {
            Check.due("private: " + field, Modifier.isPrivate(field.getModifiers()), !field.getName().equals("NONE"));
        }
        Constructor<?>[] makers = SleepWork.class.getDeclaredConstructors();
        Check.due("one constructor", makers.length == 1 && Modifier.isPublic(makers[0].getModifiers()), true);
        Check.due("final", Modifier.isFinal(SleepWork.class.getModifiers()), true);
    }

    private static void nestedClasses() {
        Class<?>[] nested = SleepWork.class.getDeclaredClasses();
        Check.due("some twelve classes", nested.length <= 12, true);
        for (Class<?> c : nested) {
            Check.due("static: " + c, Modifier.isStatic(c.getModifiers()), true);
            long fields = Arrays.stream(c.getDeclaredFields()).filter(f -> !Modifier.isStatic(f.getModifiers())).count();
            Check.due("some twenty fields: " + c, fields <= 20, true);
        }
    }

    private static String source() throws IOException {
        return Files.readString(SOURCE).replaceAll("/\\*[\\s\\S]*?\\*/", "").replaceAll("//[^\\n]*", "")
            .replaceAll("\"[^\"\\n]*\"", "\"\"");
    }

    private static void words() throws IOException {
        String source = source();
        String[] ruledOut = {"throw", "throws", "try", "catch", "synchronized", "assert", "package", "Exception",
            "System\\.(?!arraycopy)\\w+", "->", "::", "Random", "Thread", "Exact", "interface", "protected"};
        for (String word : ruledOut) {
            Matcher m = Pattern.compile(Character.isLetter(word.charAt(0)) ? "\\b" + word + "\\b" : word).matcher(source);
            Check.due("ruled out: " + word, m.find(), false);
        }
        Matcher imports = Pattern.compile("import ([\\w.]+);").matcher(source);
        while (imports.find()) {
            Check.due("import " + imports.group(1), imports.group(1).equals("java.util.Arrays"), true);
        }
        Check.due("no text joined by +", Pattern.compile("\"\" *\\+|\\+ *\"\"").matcher(source).find(), false);
    }

    private static void methodLengths() throws IOException {
        int start = 0;
        int line = 0;
        for (String text : Files.readAllLines(SOURCE)) {
            line++;
            if (text.matches(" {4,8}(?!static final|private static final|final|private final)\\S.*\\) \\{")) {
                start = line;
            }
            if (text.matches(" {4,8}\\}") && start > 0) {
                Check.due("some sixty lines, from " + start, line - start <= 60, true);
                start = 0;
            }
        }
    }
}
