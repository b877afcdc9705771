import java.io.IOException;
import java.lang.reflect.Constructor;
import java.lang.reflect.Field;
import java.lang.reflect.Method;
import java.lang.reflect.Modifier;
import java.nio.file.Files;
import java.nio.file.Path;
import java.util.Set;
import java.util.TreeSet;
import java.util.regex.Matcher;
import java.util.regex.Pattern;

/** The face is that of the document, and the rules of LANGUAGE.md that can be looked up hold. */
public final class FaceTest {
    private static final Path DOC = Path.of("../shared/DOC.md");
    private static final Path SOURCE = Path.of("src/main/java/RippleTank.java");

    private final Bench b = new Bench();

    public static void main(String[] args) throws IOException {
        FaceTest test = new FaceTest();
        test.face();
        test.classes();
        test.words();
        test.lengths();
        test.b.end();
    }

    private void face() throws IOException {
        Set<String> due = new TreeSet<>();
        Matcher block = Pattern.compile("(?s)```java\n(.*?)```").matcher(Files.readString(DOC));
        b.same("the document has a face", block.find(), true);
        for (String line : block.group(1).split("\n")) {
            if (line.contains("(")) {
                due.add(line.trim().replaceAll("^public (RippleTank\\()", "public RippleTank $1")
                        .replaceAll(" \\w+([,)])", "$1").replaceAll("\\);.*| throws.*", ")")
                        .replaceAll("\\)\\)", ")").replaceAll("; *$", ""));
            }
        }
        Set<String> found = new TreeSet<>();
        for (Method method : RippleTank.class.getDeclaredMethods()) {
            if (!Modifier.isPrivate(method.getModifiers())) {
                found.add(Modifier.toString(method.getModifiers()) + " "
                        + method.getReturnType().getName() + " " + method.getName()
                        + types(method.getParameterTypes()));
            }
        }
        for (Constructor<?> constructor : RippleTank.class.getDeclaredConstructors()) {
            found.add("public RippleTank RippleTank" + types(constructor.getParameterTypes()));
        }
        b.same("the face", found.toString(), due.toString());
        b.same("promises", found.size(), 65);
        b.same("NONE", RippleTank.NONE, -1);
        for (Field field : RippleTank.class.getDeclaredFields()) {
            b.same(field.getName() + " is private", Modifier.isPrivate(field.getModifiers()),
                    !field.getName().equals("NONE"));
        }
        b.same("final", Modifier.toString(RippleTank.class.getModifiers()), "public final");
    }

    private static String types(Class<?>[] types) {
        StringBuilder text = new StringBuilder("(");
        for (Class<?> type : types) {
            text.append(text.length() > 1 ? ", " : "").append(type.getName());
        }
        return text.append(")").toString();
    }

    private void classes() {
        Set<String> names = new TreeSet<>();
        for (Method method : RippleTank.class.getDeclaredMethods()) {
            if (Modifier.isPublic(method.getModifiers())) {
                names.add(method.getName());
            }
        }
        look(RippleTank.class, names);
        Class<?>[] inner = RippleTank.class.getDeclaredClasses();
        b.same("at most 12 classes", inner.length < 12, true);
        for (Class<?> one : inner) {
            b.same(one + " is static", Modifier.isStatic(one.getModifiers()), true);
            b.same(one + " is hidden", Modifier.isPublic(one.getModifiers()), false);
            look(one, names);
        }
    }

    private void look(Class<?> one, Set<String> names) {
        int fields = 0;
        for (Field field : one.getDeclaredFields()) {
            boolean constant = Modifier.isStatic(field.getModifiers());
            fields += constant ? 0 : 1;
            b.same(field + " is no other static state",
                    constant && !Modifier.isFinal(field.getModifiers()), false);
        }
        b.same(one + " has at most 20 fields", fields <= 20, true);
        for (Method method : one.getDeclaredMethods()) {
            b.same(method + " has at most 7 parameters", method.getParameterCount() <= 7, true);
            if (!Modifier.isPublic(method.getModifiers())) {
                b.same(method + " has a name of its own", names.contains(method.getName()), false);
            }
        }
    }

    private void words() throws IOException {
        String source = Files.readString(SOURCE).replaceAll("(?s)/\\*.*?\\*/|//[^\n]*", "");
        String[] none = {"\\bimport\\b", "\\bpackage\\b", "\\btry\\b", "\\bcatch\\b", "\\bfinally\\b",
            "\\bassert\\b", "\\bsynchronized\\b", "\\binstanceof\\b", "->", "::", "Exact\\(",
            "\\bSystem\\.(?!arraycopy)", "\\bThread\\b", "\\bRandom\\b", "\\bdouble\\b",
            "\\bequals\\(", "\\bhashCode\\(", "\\btoString\\(", "static \\{", "[^\\x00-\\x7f]"};
        for (String word : none) {
            b.same("finds of " + word, Pattern.compile(word).matcher(source).find(), false);
        }
        Matcher thrown = Pattern.compile("throw new (\\w+)\\(").matcher(source);
        while (thrown.find()) {
            b.same("throws " + thrown.group(1), Set.of(Bench.STATE, Bench.INDEX, Bench.ARGUMENT)
                    .contains(thrown.group(1)), true);
        }
    }

    private void lengths() throws IOException {
        int start = 0;
        int number = 0;
        String end = "";
        for (String line : Files.readAllLines(SOURCE)) {
            number++;
            if (end.isEmpty() && line.matches(" {4,8}\\w.*[^;]") && !line.contains(" class ")) {
                start = number;
                end = line.replaceAll("\\S.*", "") + "}";
            } else if (line.equals(end)) {
                b.same("a short method from line " + start, number - start <= 60, true);
                end = "";
            }
        }
        b.same("methods were found", number > 0 && start > 0, true);
    }
}
