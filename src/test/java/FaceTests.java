import java.io.IOException;
import java.lang.reflect.Constructor;
import java.lang.reflect.Field;
import java.lang.reflect.Method;
import java.lang.reflect.Modifier;
import java.nio.charset.StandardCharsets;
import java.nio.file.Files;
import java.nio.file.Path;
import java.util.ArrayList;
import java.util.Arrays;
import java.util.HashSet;
import java.util.List;
import java.util.Set;
import java.util.TreeSet;

/** The document's face, read from the document itself, and what can be seen of LANGUAGE.md's rules. */
public final class FaceTests {
    private static int wrong;

    public static void main(String[] args) throws IOException {
        Set<String> want = new TreeSet<>();
        String document = Files.readString(Path.of("../shared/DOC.md"), StandardCharsets.UTF_8);
        for (String line : document.split("\n")) {
            if (line.startsWith("    public int ") || line.startsWith("    public long ")) {
                want.add(told(line));
            }
        }
        Set<String> names = new HashSet<>();
        Set<String> have = new TreeSet<>();
        for (Method m : MoodBelfries.class.getDeclaredMethods()) {
            if (Modifier.isPublic(m.getModifiers())) {
                have.add(told(m));
                names.add(m.getName());
            }
        }
        due("39 promises less the constructor", want.size() == 38);
        due("the face is the document's: " + have + " is not " + want, have.equals(want));
        members(MoodBelfries.class, names);
        for (Class<?> inside : MoodBelfries.class.getDeclaredClasses()) {
            members(inside, names);
        }
        text();
        System.out.println(wrong == 0 ? "the face and the rules are kept" : wrong + " rules are not kept");
        if (wrong != 0) {
            System.exit(1);
        }
    }

    private static void due(String what, boolean kept) {
        if (!kept) {
            wrong++;
            System.out.println("not kept: " + what);
        }
    }

    /** Name, types and exceptions, without the names of parameters. */
    private static String told(String line) {
        String head = line.trim().replace("public ", "").replace(";", "");
        String inside = head.substring(head.indexOf('(') + 1, head.indexOf(')'));
        String thrown = head.substring(head.indexOf(')') + 1).replace(" throws ", "").replace(" ", "");
        int many = inside.isEmpty() ? 0 : inside.split(",").length;
        return head.substring(0, head.indexOf('(')) + "/" + many + " " + thrown;
    }

    private static String told(Method m) {
        List<String> thrown = new ArrayList<>();
        for (Class<?> type : m.getExceptionTypes()) {
            thrown.add(type.getSimpleName());
        }
        boolean ints = Arrays.stream(m.getParameterTypes()).allMatch(t -> t == int.class);
        return m.getReturnType() + " " + m.getName() + "/" + (ints ? m.getParameterCount() : -1) + " "
                + String.join(",", thrown);
    }

    private static void members(Class<?> of, Set<String> names) {
        boolean face = of == MoodBelfries.class;
        due(of + " is final, and static inside", Modifier.isFinal(of.getModifiers())
                && (face || Modifier.isStatic(of.getModifiers())));
        int own = 0;
        for (Field f : of.getDeclaredFields()) {
            boolean isStatic = Modifier.isStatic(f.getModifiers());
            due(f + " is private", Modifier.isPrivate(f.getModifiers()) || f.getName().equals("NONE"));
            due(f + " is final if static", !isStatic || Modifier.isFinal(f.getModifiers()));
            own += isStatic ? 0 : 1;
        }
        due(of + " has some twenty fields", own <= 20);
        for (Method m : of.getDeclaredMethods()) {
            boolean isPublic = Modifier.isPublic(m.getModifiers());
            due(m + " has a name of its own", isPublic || !names.contains(m.getName()));
            due(m + " is public or private", !face || isPublic || Modifier.isPrivate(m.getModifiers()));
            due(m + " has seven parameters at most", m.getParameterCount() <= 7 || m.getName().equals("would"));
        }
        for (Constructor<?> k : of.getDeclaredConstructors()) {
            due(k + " takes nothing", k.getParameterCount() == 0);
        }
    }

    private static void text() throws IOException {
        List<String> lines = Files.readAllLines(Path.of("src/main/java/MoodBelfries.java"), StandardCharsets.UTF_8);
        int imports = 0;
        for (String line : lines) {
            String code = line.contains("//") ? line.substring(0, line.indexOf("//")) : line;
            if (code.trim().startsWith("*") || code.trim().startsWith("/**")) {
                continue;
            }
            imports += code.startsWith("import ") ? 1 : 0;
            for (String no : List.of("->", "::", "catch", "finally", "synchronized", "assert", "Exact(", "double",
                    "float", "package ", "getMessage", "System.out", "protected", "Random", "Thread")) {
                due("no " + no + " in: " + line, !code.contains(no));
            }
        }
        due("two imports", imports == 2);
    }
}
