import java.io.IOException;
import java.lang.reflect.Field;
import java.lang.reflect.Method;
import java.lang.reflect.Modifier;
import java.nio.file.Files;
import java.nio.file.Path;
import java.util.ArrayList;
import java.util.List;
import java.util.Set;
import java.util.regex.Matcher;
import java.util.regex.Pattern;
import java.util.stream.Collectors;
import java.util.stream.Stream;

/** The rules of LANGUAGE.md that can be seen in the program's text or in its classes. */
public final class LanguageTest {
    private static final Check check = new Check("LanguageTest");
    private static final Path PROGRAM = Path.of("src/main/java/AdviceWeaver.java");
    private static final Pattern METHOD =
        Pattern.compile("(?m)^( +)(?:(?:public|private|static|final) )*[\\w\\[\\]]+ (\\w+)\\(([^)]*)\\) \\{$");

    public static void main(String[] args) throws IOException {
        String text = Files.readString(PROGRAM).replaceAll("(?s)/\\*.*?\\*/", "").replaceAll("//.*", "");
        onlyTheLibraryThatIsListed(text);
        nothingThatIsLeftOut(text);
        shortMethodsWithFewParameters(text);
        fewClassesWithFewFields();
        staticFieldsAreFinal();
        privateNamesAreNotThoseOfTheFace();
        check.finish();
    }

    private static List<String> found(String text, String pattern) {
        List<String> all = new ArrayList<>();
        Matcher matcher = Pattern.compile(pattern).matcher(text);
        while (matcher.find()) {
            all.add(matcher.group());
        }
        return all;
    }

    private static void none(String text, String pattern) {
        List<String> all = found(text, pattern);
        check.is("found " + all, all.size(), 0);
    }

    private static void onlyTheLibraryThatIsListed(String text) {
        check.is("no package line", text.contains("package "), false);
        for (String line : found(text, "import [^;]*;")) {
            check.is(line, line.equals("import java.util.Arrays;"), true);
        }
        none(text, "\\bSystem\\.(?!arraycopy\\()\\w+");
        none(text, "\\bArrays\\.(?!(fill|copyOf|copyOfRange)\\()\\w+");
        none(text, "\\bMath\\.(?!(max|min|abs|floorDiv|floorMod)\\()\\w+");
        none(text, "\\bjava\\.(?!util\\.Arrays;)[\\w.]+");
    }

    private static void nothingThatIsLeftOut(String text) {
        none(text, "\\b(synchronized|assert|finally|throw|throws|try|catch|volatile|native|protected|super|extends)\\b");
        none(text, "->|::|\\b(double|float|String|Object|Thread|Random)\\b");
        none(text, "(?m)^ +static \\{");
    }

    private static void shortMethodsWithFewParameters(String text) {
        Matcher matcher = METHOD.matcher(text);
        int methods = 0;
        while (matcher.find()) {
            methods++;
            int end = text.indexOf("\n" + matcher.group(1) + "}", matcher.end());
            long lines = text.substring(matcher.start(), end).lines().count();
            check.is(matcher.group(2) + " has at most 60 lines", lines <= 60, true);
            check.is(matcher.group(2) + " has at most 7 parameters", matcher.group(3).split(",").length <= 7, true);
        }
        check.is("the methods were seen", methods > 50, true);
    }

    private static List<Class<?>> classes() {
        return Stream.concat(Stream.of(AdviceWeaver.class), Stream.of(AdviceWeaver.class.getDeclaredClasses())).toList();
    }

    private static void fewClassesWithFewFields() {
        check.is("at most twelve classes", classes().size() <= 12, true);
        for (Class<?> one : classes()) {
            long fields = Stream.of(one.getDeclaredFields()).filter(f -> !Modifier.isStatic(f.getModifiers())).count();
            check.is(one.getName() + " has at most twenty fields", fields <= 20, true);
            if (one != AdviceWeaver.class) {
                check.is(one.getName() + " is static", Modifier.isStatic(one.getModifiers()), true);
                check.is(one.getName() + " is not public", Modifier.isPublic(one.getModifiers()), false);
            }
        }
    }

    private static void staticFieldsAreFinal() {
        for (Class<?> one : classes()) {
            for (Field field : one.getDeclaredFields()) {
                if (Modifier.isStatic(field.getModifiers())) {
                    check.is(field + " is final", Modifier.isFinal(field.getModifiers()), true);
                    check.is(field + " is a number or an array of them",
                        field.getType() == int.class || field.getType() == int[].class, true);
                }
            }
        }
    }

    private static void privateNamesAreNotThoseOfTheFace() {
        Set<String> face = Stream.of(AdviceWeaver.class.getDeclaredMethods())
            .filter(m -> Modifier.isPublic(m.getModifiers())).map(Method::getName).collect(Collectors.toSet());
        for (Class<?> one : classes()) {
            for (Method method : one.getDeclaredMethods()) {
                if (Modifier.isPrivate(method.getModifiers())) {
                    check.is("private " + method.getName(), face.contains(method.getName()), false);
                }
            }
        }
    }
}
