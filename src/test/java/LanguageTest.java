import java.io.IOException;
import java.lang.reflect.Constructor;
import java.lang.reflect.Field;
import java.lang.reflect.Method;
import java.lang.reflect.Modifier;
import java.nio.charset.StandardCharsets;
import java.nio.file.Files;
import java.nio.file.Path;
import java.util.Arrays;
import java.util.List;
import java.util.TreeSet;
import java.util.regex.Matcher;
import java.util.regex.Pattern;

/** What LANGUAGE.md leaves out, as far as words and the compiled class tell it; and the public face. */
public final class LanguageTest {
    private static final String[] FACE = {"feed/1", "office/0", "fault/0", "told/1", "life/2", "policy/2", "event/2",
        "day/1", "drift/1", "fund/1", "habit/2", "lapse/2", "undo/1", "calm/2", "fair/1", "pays/2", "soonest/0",
        "needs/1", "keepWhich/2", "choose/1", "fires/4", "struck/2", "witness/1", "fewest/2", "ledger/1", "befell/2",
        "sure/1", "write/1", "judge/0", "tear/0", "seed/1", "keep/1", "goBack/1"};
    private static final List<String> LIBRARY = List.of("Math.min", "Math.max", "Integer.compare", "Integer.bitCount",
        "Arrays.fill", "System.arraycopy");

    public static void main(String[] args) throws IOException {
        String source = Files.readString(Path.of("src/main/java/QuietOffice.java"), StandardCharsets.UTF_8);
        noneOf(source, "\\b(throw|throws|try|catch|synchronized|assert|package|Exact|Random|Exception|protected)\\b");
        noneOf(source, "->|::|@|[^\\x00-\\x7f]|Exact\\(|\"");
        noneOf(source, "import (?!java\\.util\\.Arrays;)");
        noneOf(source, "\\b(double|float|instanceof|Object|hashCode|equals|toString|native|volatile|transient)\\b");
        library(source);
        shortMethods(source.split("\n"));
        objectsMade(source);
        face();
        ownClasses();
        Check.end();
    }

    private static void noneOf(String source, String pattern) {
        Matcher found = Pattern.compile(pattern).matcher(source);
        Check.due("a place of " + pattern, found.find() ? found.start() : -1, -1);
    }

    /** Rule 4, as narrow as the class is: what is new here is to be looked up there. */
    private static void library(String source) {
        Matcher found = Pattern.compile("\\b(?!Odds|Trial|LedgerSearch|Reader)[A-Z]\\w*[a-z]\\w*\\.\\w+").matcher(source);
        while (found.find()) {
            Check.so("the library has " + found.group(), LIBRARY.contains(found.group()));
        }
    }

    /** Rule 11: "Methods stay short (some sixty lines)". */
    private static void shortMethods(String[] lines) {
        Pattern head = Pattern.compile("^( {4}| {8})(?!private static final class)[a-z][\\w\\[\\] ]* \\w+\\(.*\\) \\{$");
        int methods = 0;
        for (int i = 0; i < lines.length; i++) {
            Matcher found = head.matcher(lines[i]);
            if (!found.matches() || lines[i].strip().startsWith("return")) {
                continue;
            }
            int end = i;
            while (!lines[end].equals(found.group(1) + "}")) {
                end++;
            }
            methods++;
            Check.so("a short method: " + lines[i].strip(), end - i < 60);
        }
        Check.so("methods were found", methods > 80);
    }

    /** Rule 12: what is made while it is used is made once for each place, and used again. */
    private static void objectsMade(String source) {
        Matcher found = Pattern.compile("(?m)^ ++(?!final |private |public |\\*|//).*\\bnew \\w+.*$").matcher(source);
        int places = 0;
        while (found.find()) {
            places++;
            boolean isOnce = found.group().matches(" *(images\\[i]|kept\\[next]) = new State\\(\\);");
            Check.so("made once: " + found.group().strip(), isOnce);
        }
        Check.due("places where a call makes something", places, 2);
    }

    private static void face() {
        TreeSet<String> open = new TreeSet<>();
        TreeSet<String> names = new TreeSet<>();
        for (Method method : QuietOffice.class.getDeclaredMethods()) {
            names.add(method.getName());
            if (!Modifier.isPrivate(method.getModifiers())) {
                open.add(method.getName() + "/" + method.getParameterCount());
                Check.due(method + " is public", Modifier.isPublic(method.getModifiers()) ? 1 : 0, 1);
                Check.due(method + " answers an int", method.getReturnType() == int.class ? 1 : 0, 1);
            }
        }
        Check.due("the face: " + open, open.equals(new TreeSet<>(Arrays.asList(FACE))) ? 1 : 0, 1);
        int methods = QuietOffice.class.getDeclaredMethods().length;
        Check.due("no private method bears another's name", names.size(), methods);
        Constructor<?>[] constructors = QuietOffice.class.getConstructors();
        Check.due("constructors", constructors.length, 1);
        int constants = 0;
        for (Field field : QuietOffice.class.getDeclaredFields()) {
            constants += Modifier.isPrivate(field.getModifiers()) ? 0 : 1;
        }
        Check.due("open constants", constants, 5);
        Check.due("is final", Modifier.isFinal(QuietOffice.class.getModifiers()) ? 1 : 0, 1);
        fewFields(QuietOffice.class);
    }

    /** Rule 11: "a class some twenty fields beside its constants"; rule 5: "Static fields are final". */
    private static void fewFields(Class<?> each) {
        int fields = 0;
        for (Field field : each.getDeclaredFields()) {
            boolean isStatic = Modifier.isStatic(field.getModifiers());
            fields += isStatic ? 0 : 1;
            Check.so(field + " is no static state", !isStatic || Modifier.isFinal(field.getModifiers()));
        }
        Check.so("few fields in " + each, fields <= 20);
    }

    private static void ownClasses() {
        TreeSet<String> face = new TreeSet<>();
        for (String name : FACE) {
            face.add(name.substring(0, name.indexOf('/')));
        }
        Class<?>[] own = QuietOffice.class.getDeclaredClasses();
        Check.due("few classes", own.length <= 11 ? 1 : 0, 1);
        for (Class<?> each : own) {
            Check.due(each + " is static", Modifier.isStatic(each.getModifiers()) ? 1 : 0, 1);
            for (Method method : each.getDeclaredMethods()) {
                Check.due(method + " has a name of its own", face.contains(method.getName()) ? 1 : 0, 0);
                Check.due(method + " has few parameters", method.getParameterCount() <= 7 ? 1 : 0, 1);
            }
            fewFields(each);
        }
    }
}
