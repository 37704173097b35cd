import java.io.IOException;
import java.lang.reflect.Constructor;
import java.lang.reflect.Executable;
import java.lang.reflect.Field;
import java.lang.reflect.Method;
import java.lang.reflect.Modifier;
import java.nio.file.Files;
import java.nio.file.Path;
import java.util.ArrayList;
import java.util.List;
import java.util.Set;
import java.util.TreeSet;

/** The class has the document's face and no other member that can be seen (LANGUAGE.md, rules 1 and 5). */
public final class FaceTest {
    private static final String[] FACE = {
        "public int SolutionBoxes.poly() throws java.lang.IllegalStateException",
        "public boolean SolutionBoxes.term(int,long,long,int) throws java.lang.IndexOutOfBoundsException,"
            + "java.lang.IllegalArgumentException,java.lang.ArithmeticException",
        "public boolean SolutionBoxes.take(int) throws java.lang.IndexOutOfBoundsException",
        "public int SolutionBoxes.run()",
        "public int SolutionBoxes.total() throws java.lang.IllegalStateException",
        "public int SolutionBoxes.left(int) throws java.lang.IllegalStateException",
        "public int SolutionBoxes.at(int,int) throws java.lang.IllegalStateException,"
            + "java.lang.IndexOutOfBoundsException,java.lang.IllegalArgumentException",
        "public int SolutionBoxes.multiplicity(int) throws java.lang.IllegalStateException,"
            + "java.lang.IndexOutOfBoundsException",
        "public int SolutionBoxes.minimal(int,int) throws java.lang.IllegalStateException,"
            + "java.lang.IllegalArgumentException",
        "public int SolutionBoxes.value(int,int) throws java.lang.IllegalStateException,"
            + "java.lang.IndexOutOfBoundsException",
        "public int SolutionBoxes.free(int)",
        "public void SolutionBoxes.clear()",
        "public int SolutionBoxes.count(int)",
    };

    private static final Path DOCUMENT = Path.of("..", "shared", "DOC.md");

    public static void main(String[] args) throws IOException {
        Checks checks = new Checks();
        Class<?> face = SolutionBoxes.class;
        checks.dueTrue("public and final",
                Modifier.isPublic(face.getModifiers()) && Modifier.isFinal(face.getModifiers()));
        Set<String> publicNames = new TreeSet<>();
        Set<String> seen = new TreeSet<>();
        for (Method m : face.getDeclaredMethods()) {
            if (!Modifier.isPrivate(m.getModifiers())) {
                seen.add(m.toString());
                publicNames.add(m.getName());
            }
        }
        checks.same("methods", new TreeSet<>(Set.of(FACE)).toString(), seen.toString());
        Constructor<?>[] constructors = face.getDeclaredConstructors();
        checks.same("constructors", "1", Integer.toString(constructors.length));
        checks.same("constructor", "public SolutionBoxes(int)", constructors[0].toString());
        checks.same("members, by the document's code block", documentsMembers().toString(), members().toString());
        inside(checks, face, publicNames);
        for (Class<?> nested : face.getDeclaredClasses()) {
            checks.dueTrue(nested + " is static and not public", Modifier.isStatic(nested.getModifiers())
                    && !Modifier.isPublic(nested.getModifiers()) && !Modifier.isProtected(nested.getModifiers()));
            for (Method m : nested.getDeclaredMethods()) {
                checks.dueTrue(m + " bears the name of a public one", !publicNames.contains(m.getName()));
                checks.dueTrue(m + " has at most seven parameters", m.getParameterCount() <= 7);
            }
            inside(checks, nested, publicNames);
        }
        checks.dueTrue("at most twelve classes", face.getDeclaredClasses().length < 12);
        checks.end();
    }

    /** The lines of the document's code block, without the names of parameters. */
    private static Set<String> documentsMembers() throws IOException {
        Set<String> lines = new TreeSet<>();
        boolean inside = false;
        for (String line : Files.readAllLines(DOCUMENT)) {
            inside = line.startsWith("```") ? line.equals("```java") : inside;
            if (inside && line.endsWith(";")) {
                lines.add(line.strip().replaceAll("(int|long) \\w+(?=[,)])", "$1"));
            }
        }
        return lines;
    }

    /** What can be seen of the class, written as the document does. */
    private static Set<String> members() {
        Set<String> lines = new TreeSet<>();
        for (Method m : SolutionBoxes.class.getDeclaredMethods()) {
            if (!Modifier.isPrivate(m.getModifiers())) {
                lines.add(written(m, m.getReturnType() + " " + m.getName()));
            }
        }
        for (Constructor<?> c : SolutionBoxes.class.getDeclaredConstructors()) {
            lines.add(written(c, c.getName()));
        }
        return lines;
    }

    private static String written(Executable member, String name) {
        String thrown = names(member.getExceptionTypes());
        return Modifier.toString(member.getModifiers()) + " " + name + "(" + names(member.getParameterTypes()) + ")"
                + (thrown.isEmpty() ? "" : " throws " + thrown) + ";";
    }

    private static String names(Class<?>[] types) {
        List<String> names = new ArrayList<>();
        for (Class<?> type : types) {
            names.add(type.getSimpleName());
        }
        return String.join(", ", names);
    }

    private static void inside(Checks checks, Class<?> type, Set<String> publicNames) {
        int fields = 0;
        for (Field f : type.getDeclaredFields()) {
            boolean isStatic = Modifier.isStatic(f.getModifiers());
            checks.dueTrue(f + " is final if static", !isStatic || Modifier.isFinal(f.getModifiers()));
            checks.dueTrue(f + " can't be seen", type != SolutionBoxes.class || Modifier.isPrivate(f.getModifiers()));
            fields += isStatic ? 0 : 1;
        }
        checks.dueTrue(type + " has at most twenty fields", fields <= 20);
        for (Method m : type.getDeclaredMethods()) {
            checks.dueTrue(m + " private with a public name",
                    !Modifier.isPrivate(m.getModifiers()) || !publicNames.contains(m.getName()));
        }
    }
}
