import java.io.IOException;
import java.lang.reflect.Method;
import java.lang.reflect.Modifier;
import java.nio.file.Files;
import java.nio.file.Path;
import java.util.ArrayList;
import java.util.List;
import java.util.Set;
import java.util.TreeSet;
import java.util.regex.Matcher;
import java.util.regex.Pattern;
import java.util.stream.Collectors;
import java.util.stream.Stream;

/** What README.md says is so: its example answers what stands behind its calls, and it names what there is. */
public final class ReadmeTest {
    private static final Check check = new Check("ReadmeTest");
    private static final Path TESTS = Path.of("src/test/java");

    public static void main(String[] args) throws IOException, ReflectiveOperationException {
        String text = Files.readString(Path.of("README.md"));
        exampleAnswersWhatItSays(text);
        everyCallIsTold(text);
        everyTestIsNamedAndThere(text);
        everyPathIsThere(text);
        check.finish();
    }

    private static List<List<String>> found(String text, String pattern) {
        List<List<String>> all = new ArrayList<>();
        Matcher matcher = Pattern.compile(pattern).matcher(text);
        while (matcher.find()) {
            List<String> groups = new ArrayList<>();
            for (int group = 1; group <= matcher.groupCount(); group++) {
                groups.add(matcher.group(group));
            }
            all.add(groups);
        }
        return all;
    }

    /** A line of the example is a call, and behind it what it answers, with what that means. */
    private static void exampleAnswersWhatItSays(String text) throws ReflectiveOperationException {
        String example = found(text, "(?s)```java\\n(.*?)```").get(0).get(0);
        AdviceWeaver x = new AdviceWeaver();
        int calls = 0;
        for (List<String> call : found(example, "(?m)^x\\.(\\w+)\\((.*?)\\); +// (-?\\w+)")) {
            check.is("README: " + call, answer(x, call.get(0), call.get(1)), number(call.get(2)));
            calls++;
        }
        check.is("README: each line but the first is a call", calls, example.lines().count() - 1);
        check.is("README: there are some", calls > 10, true);
    }

    private static int answer(AdviceWeaver x, String name, String arguments) throws ReflectiveOperationException {
        Method method = Stream.of(AdviceWeaver.class.getMethods()).filter(m -> m.getName().equals(name)).findAny().get();
        Class<?>[] types = method.getParameterTypes();
        String[] texts = arguments.isEmpty() ? new String[0] : arguments.split(", ");
        Object[] values = new Object[types.length];
        for (int i = 0; i < types.length; i++) {
            values[i] = types[i] == boolean.class ? (Object) Boolean.valueOf(texts[i]) : (Object) number(texts[i]);
        }
        Object answer = method.invoke(x, values);
        return answer instanceof Boolean truth ? (truth ? 1 : 0) : (Integer) answer;
    }

    private static int number(String text) {
        if (text.equals("true") || text.equals("false")) {
            return text.equals("true") ? 1 : 0;
        }
        if (text.startsWith("'")) {
            return text.charAt(1);
        }
        return text.startsWith("0x") ? Integer.parseUnsignedInt(text.substring(2), 16) : Integer.parseInt(text);
    }

    private static void everyCallIsTold(String text) {
        Set<String> told = found(text, "(?m)^\\| `(\\w+)\\(").stream().map(g -> g.get(0)).collect(Collectors.toSet());
        Set<String> face = Stream.of(AdviceWeaver.class.getDeclaredMethods())
            .filter(m -> Modifier.isPublic(m.getModifiers())).map(Method::getName).collect(Collectors.toSet());
        check.is("README tells of " + told + ", the face has " + face, told.equals(face), true);
    }

    private static void everyTestIsNamedAndThere(String text) throws IOException {
        Set<String> named = new TreeSet<>();
        found(text, "`(\\w+Test)`").forEach(groups -> named.add(groups.get(0)));
        Set<String> there = new TreeSet<>();
        try (Stream<Path> files = Files.list(TESTS)) {
            files.map(file -> file.getFileName().toString()).filter(name -> name.endsWith("Test.java"))
                .forEach(name -> there.add(name.replace(".java", "")));
        }
        check.is("README names " + named + ", there are " + there, named.equals(there), true);
    }

    private static void everyPathIsThere(String text) {
        int paths = 0;
        for (List<String> path : found(text, "`((?:\\.\\./|\\.ci/|src/)[\\w./]*)`")) {
            check.is("README: " + path + " is there", Files.exists(Path.of(path.get(0))), true);
            paths++;
        }
        check.is("README: there are paths", paths > 3, true);
        check.is("README: .ci/run can be run", Files.isExecutable(Path.of(".ci/run")), true);
    }
}
