import java.io.IOException;
import java.lang.reflect.Constructor;
import java.lang.reflect.Field;
import java.lang.reflect.Method;
import java.lang.reflect.Modifier;
import java.nio.file.Files;
import java.nio.file.Path;
import java.util.List;
import java.util.TreeSet;

/** The face is that of the document, and the source keeps to those rules of LANGUAGE.md that a search can see. */
public final class FaceTest {
    private static final String SOURCE = "src/main/java/SkateSheet.java";

    private static final String A = " throws IllegalArgumentException";
    private static final String B = " throws IndexOutOfBoundsException";
    private static final String C = " throws IllegalStateException";
    private static final String A_AND_C = A + ",IllegalStateException";
    private static final String B_AND_A = B + ",IllegalArgumentException";

    private static final String[] FACE = {
        "int couple(int)" + A_AND_C, "int judge(int)" + A_AND_C, "int open(int,int)" + A_AND_C,
        "int round(int,int)" + A_AND_C, "int dance()" + C, "int cross(int,int,int)" + B_AND_A, "int cut()" + C,
        "int begin()" + C, "int sheet(int,int,int)" + B_AND_A, "int lose(int,int)" + B,
        "boolean penalise(int,int,boolean)" + B, "int close()" + C,
        "int ofCouple(int,int)" + B_AND_A, "int meetings(int,int)" + B, "int ofJudge(int,int)" + B_AND_A,
        "int votes(int,int,int)" + B_AND_A, "int placed(int,int,int)" + B_AND_A, "int result(int,int)" + B_AND_A,
        "int many(int)" + A, "double meanStanding()", "int exchanged(int,int,int,int,int)" + B,
        "int bestExchange(int,int,int)" + B, "int without(int,int)" + B_AND_A, "int fragile()", "long digest()"};

    private static final String[] OUTSIDE = {"import ", "package ", "->", "::", "catch", "try ", "finally", "Exact(",
        "java.", "synchronized", "assert ", "static {", "System.", "getMessage", "hashCode", "toString", "equals(",
        "protected "};

    private FaceTest() {
    }

    public static void main(String[] args) throws IOException {
        theFaceIsThatOfTheDocument();
        onlyStaticClassesAreInside();
        theSourceKeepsToItsPartOfJava();
        methodsAreShort();
        Check.end();
    }

    private static void theFaceIsThatOfTheDocument() {
        Class<?> c = SkateSheet.class;
        Check.due("the class is public and final", c.getModifiers(), Modifier.PUBLIC | Modifier.FINAL);
        TreeSet<String> want = new TreeSet<>();
        TreeSet<String> names = new TreeSet<>();
        for (String method : FACE) {
            want.add(method);
            names.add(method.substring(method.indexOf(' ') + 1, method.indexOf('(')));
        }
        TreeSet<String> found = new TreeSet<>();
        for (Method method : c.getDeclaredMethods()) {
            if (Modifier.isPrivate(method.getModifiers())) {
                Check.due(method.getName() + " is private and named as one of the face",
                        names.contains(method.getName()), false);
                continue;
            }
            found.add(method.toString().replaceAll("SkateSheet[.]|java[.]lang[.]|^public ", ""));
        }
        Check.due("the methods", found.toString(), want.toString());
        Constructor<?>[] made = c.getDeclaredConstructors();
        Check.due("constructors", made.length, 1);
        Check.due("its parameters", made[0].getParameterCount(), 0);
        Check.due("it is public", Modifier.isPublic(made[0].getModifiers()), true);
        for (Field field : c.getDeclaredFields()) {
            Check.due(field.getName() + " is private", Modifier.isPrivate(field.getModifiers()), true);
            boolean isStatic = Modifier.isStatic(field.getModifiers());
            Check.due(field.getName() + " is static and not final",
                    isStatic && !Modifier.isFinal(field.getModifiers()), false);
        }
    }

    private static void onlyStaticClassesAreInside() {
        Class<?>[] inside = SkateSheet.class.getDeclaredClasses();
        Check.due("twelve classes at most", inside.length + 1 <= 12, true);
        for (Class<?> c : inside) {
            Check.due(c.getName() + " is static", Modifier.isStatic(c.getModifiers()), true);
            Check.due(c.getName() + " is public", Modifier.isPublic(c.getModifiers()), false);
            Check.due(c.getName() + " has twenty fields at most", c.getDeclaredFields().length <= 20, true);
        }
    }

    private static void theSourceKeepsToItsPartOfJava() throws IOException {
        String source = Files.readString(Path.of(SOURCE));
        for (String outside : OUTSIDE) {
            Check.due("the source holds \"" + outside + "\"", source.contains(outside), false);
        }
        for (int i = 0; i < source.length(); i++) {
            if (source.charAt(i) > 126) {
                Check.complain("a sign beyond 126 at " + i);
            }
        }
    }

    // A method begins and ends with lines that are indented alike.
    private static void methodsAreShort() throws IOException {
        List<String> lines = Files.readAllLines(Path.of(SOURCE));
        for (int from = 0; from < lines.size(); from++) {
            String head = lines.get(from);
            String indent = head.substring(0, head.length() - head.stripLeading().length());
            if (!head.endsWith("{") || !head.contains("(") || indent.length() != 4 && indent.length() != 8) {
                continue;
            }
            int to = from;
            while (!lines.get(to).equals(indent + "}")) {
                to++;
            }
            Check.due("sixty lines at most: " + head.strip(), to - from + 1 <= 60, true);
            Check.due("seven parameters at most: " + head.strip(), head.split(",").length <= 7, true);
        }
    }
}
