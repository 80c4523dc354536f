import java.lang.reflect.Constructor;
import java.lang.reflect.Field;
import java.lang.reflect.Method;
import java.lang.reflect.Modifier;
import java.nio.charset.StandardCharsets;
import java.nio.file.Files;
import java.nio.file.Path;
import java.util.Arrays;
import java.util.List;
import java.util.TreeSet;

/** Those rules of ../shared/LANGUAGE.md that can be told from the text and the face of the program. */
public final class LanguageTest {
    private static final Path PROGRAM = Path.of("src/main/java/FootmenMatch.java");
    private static final List<String> FACE = List.of(
        "int feed(int)", "int house()", "int man(int,int,int,int)", "int of(int,int)", "int pull(int,int)",
        "int row(int,int,int)", "int set(int,int,int)", "int away(int,boolean)", "int told(int)", "int pass(int)",
        "int on(int,int)", "int steer(int,int)", "int tells(int,int)", "int roomed(int)", "int see(int,int,int)",
        "int states(int)", "int where(int)", "int firm(int,int)", "long odds(int,int,int,int,int)", "long mean(int)",
        "int plan(int,int)", "int done(int)", "int book(int,int)", "int looked()", "int act(int,int,int)",
        "int trace(int)", "int as(int,int)", "int image()", "int undo()", "int count(int)");
    private static int wrong;

    public static void main(String[] args) throws Exception {
        words(Files.readString(PROGRAM, StandardCharsets.UTF_8));
        face();
        for (Class<?> inside : FootmenMatch.class.getDeclaredClasses()) {
            inside(inside);
        }
        atMost("classes", FootmenMatch.class.getDeclaredClasses().length + 1, 12);
        System.out.println(wrong == 0 ? "the rules are kept" : wrong + " rules are broken");
        if (wrong != 0) {
            System.exit(1);
        }
    }

    private static void rule(String told, boolean kept) {
        if (!kept) {
            wrong++;
            System.out.println("broken: " + told);
        }
    }

    private static void atMost(String told, int got, int most) {
        rule(got + " " + told + ", at most " + most, got <= most);
    }

    private static void words(String text) {
        String code = text.replaceAll("(?s)/\\*.*?\\*/", "").replaceAll("//[^\n]*", "");
        List<String> bad = List.of("throw", "throws", "try", "catch", "finally", "synchronized", "assert", "import",
            "package", "System\\.(?!arraycopy)\\w+", "Math", "double", "float", "Object", "protected", "instanceof");
        for (String word : bad) {
            rule("word " + word, !code.matches("(?s).*\\b" + word + "\\b.*"));
        }
        rule("lambda or method reference", !code.contains("->") && !code.contains("::"));
        rule("signs 10, 32 .. 126 alone", text.chars().allMatch(c -> c == 10 || c >= 32 && c < 127));
        int line = 0;
        int begun = 0;
        for (String row : text.split("\n")) {
            line++;
            boolean head = row.matches(" {4,8}[a-zA-Z].*\\) \\{");
            begun = head ? line : begun;
            boolean end = row.matches(" {4}\\}| {8}\\}");
            if (end && begun > 0) {
                atMost("lines up to line " + line, line - begun + 1, 60);
            }
        }
    }

    private static String told(Method method) {
        StringBuilder text = new StringBuilder();
        for (Class<?> type : method.getParameterTypes()) {
            text.append(text.length() == 0 ? "" : ",").append(type.getSimpleName());
        }
        return method.getReturnType().getSimpleName() + " " + method.getName() + "(" + text + ")";
    }

    private static void face() {
        TreeSet<String> open = new TreeSet<>();
        TreeSet<String> names = new TreeSet<>();
        for (String told : FACE) {
            names.add(told.replaceAll(".* |\\(.*", ""));
        }
        for (Method method : FootmenMatch.class.getDeclaredMethods()) {
            if (Modifier.isPublic(method.getModifiers())) {
                open.add(told(method));
            } else {
                rule("private: " + method, Modifier.isPrivate(method.getModifiers()));
                rule("name of a public one: " + method, !names.contains(method.getName()));
            }
        }
        rule("the face, it is " + open, open.equals(new TreeSet<>(FACE)));
        List<String> constants = List.of("NONE", "BAD", "STATE", "FULL", "NO");
        for (Field field : FootmenMatch.class.getDeclaredFields()) {
            boolean constant = constants.contains(field.getName());
            int is = field.getModifiers();
            rule("open or not: " + field, constant ? Modifier.isPublic(is) : Modifier.isPrivate(is));
            rule("static and not final: " + field, !Modifier.isStatic(is) || Modifier.isFinal(is));
        }
        Constructor<?>[] made = FootmenMatch.class.getDeclaredConstructors();
        rule("one constructor", made.length == 1 && Modifier.isPublic(made[0].getModifiers()));
        rule("final", Modifier.isFinal(FootmenMatch.class.getModifiers()));
    }

    private static void inside(Class<?> inside) {
        rule("static: " + inside, Modifier.isStatic(inside.getModifiers()));
        rule("not open: " + inside, !Modifier.isPublic(inside.getModifiers()));
        long fields = Arrays.stream(inside.getDeclaredFields()).filter(f -> !Modifier.isStatic(f.getModifiers())).count();
        atMost("fields of " + inside, (int) fields, 20);
        for (Method method : inside.getDeclaredMethods()) {
            atMost("parameters of " + method, method.getParameterCount(), 7);
            for (String told : FACE) {
                rule("name of a public one: " + method, !told.contains(" " + method.getName() + "("));
            }
        }
    }
}
