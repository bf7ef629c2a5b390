import java.io.IOException;
import java.lang.reflect.Field;
import java.lang.reflect.Method;
import java.lang.reflect.Modifier;
import java.nio.file.Files;
import java.nio.file.Path;
import java.util.ArrayList;
import java.util.HashMap;
import java.util.List;
import java.util.Map;
import java.util.Set;
import java.util.regex.Matcher;
import java.util.regex.Pattern;
import java.util.stream.Collectors;
import java.util.stream.Stream;

/** The rules of LANGUAGE.md that can be seen in the program's text or in its classes. */
public final class LanguageTest {
    private static final Check check = new Check("LanguageTest");
    private static final Path PROGRAM = Path.of("src/main/java/AdviceWeaver.java");
    private static final Pattern METHOD =
        Pattern.compile("(?m)^( +)(?:(?:public|private|static|final) )*[\\w\\[\\]]+ (\\w+)\\(([^)]*)\\) \\{$");

    public static void main(String[] args) throws IOException {
        String text = Files.readString(PROGRAM).replaceAll("(?s)/\\*.*?\\*/", "").replaceAll("//.*", "");
        onlyTheLibraryThatIsListed(text);
        nothingThatIsLeftOut(text);
        shortMethodsWithFewParameters(text);
        objectsAreMadeInConstructorsAlone(text);
        callsGoFewDeepAndNoneComesBack(text);
        fewClassesWithFewFields();
        staticFieldsAreFinal();
        privateNamesAreNotThoseOfTheFace();
        check.finish();
    }

    private static List<String> found(String text, String pattern) {
        List<String> all = new ArrayList<>();
        Matcher matcher = Pattern.compile(pattern).matcher(text);
        while (matcher.find()) {
            all.add(matcher.group());
        }
        return all;
    }

    private static void none(String text, String pattern) {
        List<String> all = found(text, pattern);
        check.is("found " + all, all.size(), 0);
    }

    private static void onlyTheLibraryThatIsListed(String text) {
        check.is("no package line", text.contains("package "), false);
        for (String line : found(text, "import [^;]*;")) {
            check.is(line, line.equals("import java.util.Arrays;"), true);
        }
        none(text, "\\bSystem\\.(?!arraycopy\\()\\w+");
        none(text, "\\bArrays\\.(?!(fill|copyOf|copyOfRange)\\()\\w+");
        none(text, "\\bMath\\.(?!(max|min|abs|floorDiv|floorMod)\\()\\w+");
        none(text, "\\bjava\\.(?!util\\.Arrays;)[\\w.]+");
    }

    private static void nothingThatIsLeftOut(String text) {
        none(text, "\\b(synchronized|assert|finally|throw|throws|try|catch|volatile|native|protected|super|extends)\\b");
        none(text, "->|::|\\b(double|float|String|Object|Thread|Random)\\b");
        none(text, "(?m)^ +static \\{");
        none(text, "while \\(true\\)|for \\(;;");
    }

    private static void shortMethodsWithFewParameters(String text) {
        Matcher matcher = METHOD.matcher(text);
        while (matcher.find()) {
            String parameters = matcher.group(3);
            check.is(matcher.group(2) + " has at most 7 parameters", parameters.split(",").length <= 7, true);
        }
        bodies(text).forEach((name, body) ->
            check.is(name + " has at most 60 lines", body.lines().count() < 60, true));
    }

    /** By name, which no two methods of the program share; constructors are not among them. */
    private static Map<String, String> bodies(String text) {
        Map<String, String> bodies = new HashMap<>();
        Matcher matcher = METHOD.matcher(text);
        while (matcher.find()) {
            int end = text.indexOf("\n" + matcher.group(1) + "}", matcher.end());
            String before = bodies.put(matcher.group(2), text.substring(matcher.end(), end));
            check.is("another method is named " + matcher.group(2), before == null, true);
        }
        bodies.remove("AdviceWeaver");
        check.is("the methods were seen", bodies.size() > 50, true);
        return bodies;
    }

    private static void objectsAreMadeInConstructorsAlone(String text) {
        bodies(text).values().forEach(body -> none(body, "\\bnew \\w+"));
    }

    private static void callsGoFewDeepAndNoneComesBack(String text) {
        Map<String, String> bodies = bodies(text);
        int deepest = 0;
        for (String name : bodies.keySet()) {
            deepest = Math.max(deepest, deep(name, bodies, List.of()));
        }
        check.is("calls go at most eight deep: " + deepest, deepest > 3 && deepest <= 8, true);
    }

    private static int deep(String name, Map<String, String> bodies, List<String> under) {
        if (under.contains(name)) {
            check.is("recursion of " + name, true, false);
            return 0;
        }
        List<String> here = new ArrayList<>(under);
        here.add(name);
        int deepest = 0;
        for (String called : found(bodies.get(name), "\\b\\w+(?=\\()")) {
            if (bodies.containsKey(called)) {
                deepest = Math.max(deepest, deep(called, bodies, here));
            }
        }
        return deepest + 1;
    }

    private static List<Class<?>> classes() {
        return Stream.concat(Stream.of(AdviceWeaver.class), Stream.of(AdviceWeaver.class.getDeclaredClasses())).toList();
    }

    private static void fewClassesWithFewFields() {
        check.is("at most twelve classes", classes().size() <= 12, true);
        for (Class<?> one : classes()) {
            long fields = Stream.of(one.getDeclaredFields()).filter(f -> !Modifier.isStatic(f.getModifiers())).count();
            check.is(one.getName() + " has at most twenty fields", fields <= 20, true);
            if (one != AdviceWeaver.class) {
                check.is(one.getName() + " is static", Modifier.isStatic(one.getModifiers()), true);
                check.is(one.getName() + " is not public", Modifier.isPublic(one.getModifiers()), false);
            }
        }
    }

    private static void staticFieldsAreFinal() {
        for (Class<?> one : classes()) {
            for (Field field : one.getDeclaredFields()) {
                if (Modifier.isStatic(field.getModifiers())) {
                    check.is(field + " is final", Modifier.isFinal(field.getModifiers()), true);
                    check.is(field + " is a number or an array of them",
                        field.getType() == int.class || field.getType() == int[].class, true);
                }
            }
        }
    }

    private static void privateNamesAreNotThoseOfTheFace() {
        Set<String> face = Stream.of(AdviceWeaver.class.getDeclaredMethods())
            .filter(m -> Modifier.isPublic(m.getModifiers())).map(Method::getName).collect(Collectors.toSet());
        for (Class<?> one : classes()) {
            for (Method method : one.getDeclaredMethods()) {
                if (Modifier.isPrivate(method.getModifiers())) {
                    check.is("private " + method.getName(), face.contains(method.getName()), false);
                }
            }
        }
    }
}
