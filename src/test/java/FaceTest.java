import java.io.IOException;
import java.lang.reflect.Constructor;
import java.lang.reflect.Field;
import java.lang.reflect.Method;
import java.lang.reflect.Modifier;
import java.nio.file.Files;
import java.nio.file.Path;
import java.util.Arrays;
import java.util.Set;
import java.util.TreeSet;
import java.util.regex.Pattern;

/** The class has the document's face and no other, and keeps the plainest rules of LANGUAGE.md. */
public final class FaceTest {
    private static final Due due = new Due();
    private static final Path SOURCE = Path.of("src/main/java/StackPolicyKernel.java");
    private static final Set<String> METHODS = Set.of(
        "int task(int, int, int)", "boolean section(int, int, int, int)",
        "boolean server(int, int)", "boolean start()", "int verdict()", "int ceiling(int)",
        "int release(int, int)", "boolean submit(int)", "int step(int)", "int time()",
        "int ran(int)", "int queued(int)", "int holder(int)", "int systemCeiling()",
        "int job(int, int)", "int misses(int)", "int worst(int)", "int serverFigure(int)",
        "int count(int)");
    private static final Set<String> CONSTANTS = Set.of("NONE", "OFF", "BAD", "BUSY", "EARLY");

    public static void main(String[] args) throws IOException {
        constants();
        classItself();
        methods();
        fields();
        classesInside();
        source();
        due.end();
    }

    private static void constants() {
        due.is("NONE", StackPolicyKernel.NONE, -1);
        due.is("OFF", StackPolicyKernel.OFF, -1);
        due.is("BAD", StackPolicyKernel.BAD, -2);
        due.is("BUSY", StackPolicyKernel.BUSY, -3);
        due.is("EARLY", StackPolicyKernel.EARLY, -4);
    }

    private static void classItself() {
        int modifiers = StackPolicyKernel.class.getModifiers();
        due.yes("public and final", Modifier.isPublic(modifiers) && Modifier.isFinal(modifiers));
        Constructor<?>[] constructors = StackPolicyKernel.class.getDeclaredConstructors();
        due.is("constructors", constructors.length, 1);
        due.is("its parameters", constructors[0].getParameterCount(), 0);
        due.yes("it is public", Modifier.isPublic(constructors[0].getModifiers()));
    }

    private static void methods() {
        Set<String> publicOnes = new TreeSet<>();
        Set<String> publicNames = new TreeSet<>();
        Set<String> privateNames = new TreeSet<>();
        for (Method m : StackPolicyKernel.class.getDeclaredMethods()) {
            if (Modifier.isPublic(m.getModifiers())) {
                String types = Arrays.toString(m.getParameterTypes());
                publicOnes.add(m.getReturnType() + " " + m.getName()
                    + "(" + types.substring(1, types.length() - 1) + ")");
                publicNames.add(m.getName());
            } else {
                due.yes("private: " + m.getName(), Modifier.isPrivate(m.getModifiers()));
                privateNames.add(m.getName());
            }
        }
        for (Class<?> inside : StackPolicyKernel.class.getDeclaredClasses()) {
            for (Method m : inside.getDeclaredMethods()) {
                privateNames.add(m.getName());
            }
        }
        due.yes("the document's methods: " + publicOnes, publicOnes.equals(METHODS));
        privateNames.retainAll(publicNames);
        due.yes("no name twice: " + privateNames, privateNames.isEmpty());
    }

    private static void fields() {
        Set<String> publicOnes = new TreeSet<>();
        for (Field f : StackPolicyKernel.class.getDeclaredFields()) {
            if (Modifier.isPublic(f.getModifiers())) {
                publicOnes.add(f.getName());
            } else {
                due.yes("private: " + f.getName(), Modifier.isPrivate(f.getModifiers()));
            }
            boolean isStatic = Modifier.isStatic(f.getModifiers());
            due.yes("a static field is final: " + f.getName(),
                !isStatic || Modifier.isFinal(f.getModifiers()));
        }
        due.yes("the document's constants: " + publicOnes, publicOnes.equals(CONSTANTS));
    }

    private static void classesInside() {
        for (Class<?> inside : StackPolicyKernel.class.getDeclaredClasses()) {
            due.yes("static: " + inside, Modifier.isStatic(inside.getModifiers()));
            due.yes("some twenty fields: " + inside, inside.getDeclaredFields().length <= 20);
        }
        due.yes("some twelve classes", StackPolicyKernel.class.getDeclaredClasses().length < 12);
    }

    private static void source() throws IOException {
        String code = Files.readString(SOURCE)
            .replaceAll("(?s)/\\*.*?\\*/", " ").replaceAll("//[^\\n]*", " ");
        String[] forbidden = {"\\bpackage\\b", "\\bimport\\b", "\\bthrows?\\b", "\\btry\\b",
            "\\bcatch\\b", "\\bsynchronized\\b", "\\bassert\\b", "->", "::", "\\bSystem\\.(?!arraycopy)",
            "Exact\\b", "\\bthis\\s*::", "\\bprotected\\b", "static\\s*\\{", "\\bThread\\b"};
        for (String f : forbidden) {
            due.no("the source has " + f, Pattern.compile(f).matcher(code).find());
        }
    }
}
