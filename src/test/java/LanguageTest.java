import java.io.IOException;
import java.lang.reflect.Constructor;
import java.lang.reflect.Field;
import java.lang.reflect.Method;
import java.lang.reflect.Modifier;
import java.nio.charset.StandardCharsets;
import java.nio.file.Files;
import java.nio.file.Path;
import java.util.Arrays;
import java.util.TreeSet;
import java.util.regex.Matcher;
import java.util.regex.Pattern;

/** What LANGUAGE.md leaves out, as far as words and the compiled class tell it; and the public face. */
public final class LanguageTest {
    private static final String[] FACE = {"feed/1", "office/0", "fault/0", "told/1", "life/2", "policy/2", "event/2",
        "day/1", "drift/1", "fund/1", "habit/2", "lapse/2", "undo/1", "calm/2", "fair/1", "pays/2", "soonest/0",
        "needs/1", "keepWhich/2", "choose/1", "fires/4", "struck/2", "witness/1", "fewest/2", "ledger/1", "befell/2",
        "sure/1", "write/1", "judge/0", "tear/0", "seed/1", "keep/1", "goBack/1"};

    public static void main(String[] args) throws IOException {
        String source = Files.readString(Path.of("src/main/java/QuietOffice.java"), StandardCharsets.UTF_8);
        noneOf(source, "\\b(throw|throws|try|catch|synchronized|assert|package|Exact|Random|Exception|protected)\\b");
        noneOf(source, "->|::|@|[^\\x00-\\x7f]|Exact\\(");
        noneOf(source, "import (?!java\\.util\\.Arrays;)");
        face();
        ownClasses();
        Check.end();
    }

    private static void noneOf(String source, String pattern) {
        Matcher found = Pattern.compile(pattern).matcher(source);
        Check.due("a place of " + pattern, found.find() ? found.start() : -1, -1);
    }

    private static void face() {
        TreeSet<String> open = new TreeSet<>();
        TreeSet<String> names = new TreeSet<>();
        for (Method method : QuietOffice.class.getDeclaredMethods()) {
            names.add(method.getName());
            if (!Modifier.isPrivate(method.getModifiers())) {
                open.add(method.getName() + "/" + method.getParameterCount());
                Check.due(method + " is public", Modifier.isPublic(method.getModifiers()) ? 1 : 0, 1);
                Check.due(method + " answers an int", method.getReturnType() == int.class ? 1 : 0, 1);
            }
        }
        Check.due("the face: " + open, open.equals(new TreeSet<>(Arrays.asList(FACE))) ? 1 : 0, 1);
        int methods = QuietOffice.class.getDeclaredMethods().length;
        Check.due("no private method bears another's name", names.size(), methods);
        Constructor<?>[] constructors = QuietOffice.class.getConstructors();
        Check.due("constructors", constructors.length, 1);
        int constants = 0;
        for (Field field : QuietOffice.class.getDeclaredFields()) {
            constants += Modifier.isPrivate(field.getModifiers()) ? 0 : 1;
        }
        Check.due("open constants", constants, 5);
        Check.due("is final", Modifier.isFinal(QuietOffice.class.getModifiers()) ? 1 : 0, 1);
    }

    private static void ownClasses() {
        TreeSet<String> face = new TreeSet<>();
        for (String name : FACE) {
            face.add(name.substring(0, name.indexOf('/')));
        }
        Class<?>[] own = QuietOffice.class.getDeclaredClasses();
        Check.due("few classes", own.length <= 11 ? 1 : 0, 1);
        for (Class<?> each : own) {
            Check.due(each + " is static", Modifier.isStatic(each.getModifiers()) ? 1 : 0, 1);
            for (Method method : each.getDeclaredMethods()) {
                Check.due(method + " has a name of its own", face.contains(method.getName()) ? 1 : 0, 0);
                Check.due(method + " has few parameters", method.getParameterCount() <= 7 ? 1 : 0, 1);
            }
            for (Field field : each.getDeclaredFields()) {
                boolean isOpenState = Modifier.isStatic(field.getModifiers()) && !Modifier.isFinal(field.getModifiers());
                Check.due(field + " is no static state", isOpenState ? 1 : 0, 0);
            }
        }
    }
}
