import java.lang.reflect.Constructor;
import java.lang.reflect.Field;
import java.lang.reflect.Method;
import java.lang.reflect.Modifier;
import java.util.Arrays;
import java.util.HashSet;
import java.util.List;
import java.util.Set;

/** The public face and rule 1 of LANGUAGE.md; promise 1. */
public final class FaceTest {
    private static final Check check = new Check("FaceTest");
    private static final List<String> FACE = List.of(
        "boolean put(int, int)", "void clear()", "int load()", "int transformer(boolean, int, int)", "void unchain()",
        "int weave()", "boolean failed(int, int)", "int run(boolean, int, int, int, int)", "int value()", "int used()",
        "int marks()", "int mark(int)", "int probe(int, int)", "int shape(boolean, int, int)",
        "int code(boolean, int, int)", "int handler(boolean, int, int, int)", "int depth(boolean, int, int)");

    public static void main(String[] args) {
        membersAreThoseOfTheDocument();
        newObjectIsEmpty();
        check.finish();
    }

    private static void membersAreThoseOfTheDocument() {
        Class<?> face = AdviceWeaver.class;
        check.is("class is public and final", face.getModifiers(), Modifier.PUBLIC | Modifier.FINAL);
        check.is("NONE", AdviceWeaver.NONE, -1);
        Set<String> methods = new HashSet<>();
        for (Method method : face.getDeclaredMethods()) {
            String parameters = Arrays.toString(method.getParameterTypes()).replace("[", "(").replace("]", ")");
            String signature = method.getReturnType() + " " + method.getName() + parameters;
            if (method.isSynthetic()) {
                continue;
            }
            boolean isPrivate = Modifier.isPrivate(method.getModifiers());
            check.is("private or of the face: " + signature, isPrivate, !FACE.contains(signature));
            if (!isPrivate) {
                check.is("public only: " + signature, method.getModifiers(), Modifier.PUBLIC);
                methods.add(signature);
            }
        }
        check.is("methods of the face", methods.size(), FACE.size());
        for (Field field : face.getDeclaredFields()) {
            boolean isNone = field.getName().equals("NONE");
            check.is("private: " + field.getName(), Modifier.isPrivate(field.getModifiers()), !isNone);
        }
        Constructor<?>[] constructors = face.getDeclaredConstructors();
        check.is("one constructor", constructors.length, 1);
        check.is("without parameters", constructors[0].getParameterCount(), 0);
        check.is("public", constructors[0].getModifiers(), Modifier.PUBLIC);
    }

    private static void newObjectIsEmpty() {
        AdviceWeaver x = new AdviceWeaver();
        check.is("load without bytes", x.load(), -1);
        check.is("weave without a class", x.weave(), -1);
        for (int m = -1; m < 5; m++) {
            for (int woven = 0; woven < 2; woven++) {
                check.is("run without a class", x.run(woven == 1, m, 0, 0, 10), -1);
                check.is("shape without a class", x.shape(woven == 1, m, 0), -1);
                check.is("code without a class", x.code(woven == 1, m, 0), -1);
                check.is("handler without a class", x.handler(woven == 1, m, 0, 0), -1);
                check.is("depth without a class", x.depth(woven == 1, m, 0), -1);
            }
            check.is("failed without a class", x.failed(m, 0), false);
            check.is("probe without a run", x.probe(m, 0), 0);
        }
        check.is("value without a run", x.value(), 0);
        check.is("used without a run", x.used(), 0);
        check.marks("without a run", x);
        check.is("the chain is empty", x.transformer(true, 0, -1), 0);
    }
}
