import java.io.IOException;
import java.lang.reflect.Constructor;
import java.lang.reflect.Field;
import java.lang.reflect.Method;
import java.lang.reflect.Modifier;
import java.nio.file.Files;
import java.nio.file.Path;
import java.util.Set;
import java.util.TreeSet;
import java.util.regex.Matcher;
import java.util.regex.Pattern;

/** What can be told of ../shared/LANGUAGE.md from the class and its text. Runs at the project's root. */
public final class LanguageTest {
    private static final String TEXT = "src/main/java/MoleBoard.java";

    public static void main(String[] args) throws IOException {
        String code = withoutComments(Files.readString(Path.of(TEXT)));
        face();
        classes();
        words(code);
        lengths(code);
        Check.end("LanguageTest");
    }

    private static String withoutComments(String text) {
        String code = text.replaceAll("(?s)/\\*.*?\\*/", " ").replaceAll("//[^\n]*", " ");
        return code.replaceAll("\"[^\"\n]*\"", "\"\"").replaceAll("'\\\\?[^\n]'", "' '");
    }

    private static void face() {
        Set<String> names = new TreeSet<>();
        for (Method m : MoleBoard.class.getDeclaredMethods()) {
            if (Modifier.isPublic(m.getModifiers())) {
                names.add(m.getName());
            }
        }
        Check.due("public methods", names.size(), 70);
        for (Method m : MoleBoard.class.getDeclaredMethods()) {
            boolean isPublic = Modifier.isPublic(m.getModifiers());
            due(m + " is public or private", isPublic || Modifier.isPrivate(m.getModifiers()));
            due(m + " has a name of its own", isPublic || !names.contains(m.getName()));
            due(m + " is not static in the face", !isPublic || !Modifier.isStatic(m.getModifiers()));
        }
        for (Field f : MoleBoard.class.getDeclaredFields()) {
            due(f + " is private or NONE", Modifier.isPrivate(f.getModifiers()) || f.getName().equals("NONE"));
        }
        Constructor<?>[] all = MoleBoard.class.getDeclaredConstructors();
        due("one public constructor", all.length == 1 && Modifier.isPublic(all[0].getModifiers()) && all[0].getParameterCount() == 0);
        due("the class is final", Modifier.isFinal(MoleBoard.class.getModifiers()));
        for (Class<?> c : MoleBoard.class.getDeclaredClasses()) {
            for (Method m : c.getDeclaredMethods()) {
                due(m + " has a name of its own", !Modifier.isPrivate(m.getModifiers()) || !names.contains(m.getName()));
            }
        }
    }

    private static void classes() {
        Class<?>[] inside = MoleBoard.class.getDeclaredClasses();
        due("at most some twelve classes", inside.length + 1 <= 14);
        for (Class<?> c : inside) {
            due(c + " is static and not public", Modifier.isStatic(c.getModifiers()) && !Modifier.isPublic(c.getModifiers()));
            fields(c);
        }
        fields(MoleBoard.class);
    }

    private static void fields(Class<?> c) {
        int many = 0;
        for (Field f : c.getDeclaredFields()) {
            boolean isStatic = Modifier.isStatic(f.getModifiers());
            due(f + " is final if static", !isStatic || Modifier.isFinal(f.getModifiers()));
            many += isStatic ? 0 : 1;
        }
        due(c + " has at most some twenty fields", many <= 24);
    }

    private static void words(String code) {
        String[] never = {"\\b(throw|throws|try|catch|finally|synchronized|assert|native|volatile|package)\\b",
            "::", "\\b(hashCode|getClass)\\(", "\\w+Exact\\(", "\\bstatic \\{", "\\bwhile \\(true\\)", "for \\(;;\\)",
            "\\b(Integer|Long|Math)\\.(?!(bitCount|max|min|abs|floorMod|floorDiv|compare)\\()", "\" \\+|\\+ \"", "\\b(System\\.(?!arraycopy)|Thread|Random|File)\\b"};
        for (String one : never) {
            Matcher m = Pattern.compile(one).matcher(code);
            due("no " + one + (m.find() ? ": " + m.group() : ""), m.reset().find() == false);
        }
    }

    private static void lengths(String code) {
        String[] lines = code.split("\n", -1);
        for (int i = 0; i < lines.length; i++) {
            Matcher m = Pattern.compile("^( +)(?:public |private |static |final )*[\\w\\[\\]]+ (\\w+)\\(([^)]*)\\) \\{$").matcher(lines[i]);
            if (m.matches()) {
                int end = i;
                while (!lines[end].equals(m.group(1) + "}")) {
                    end++;
                }
                due(m.group(2) + " is short", end - i <= 60);
                due(m.group(2) + " takes at most seven", m.group(3).split(",").length <= 7);
            }
        }
    }

    private static void due(String what, boolean is) {
        Check.due(what, is ? 1 : 0, 1);
    }
}
