import java.io.IOException;
import java.lang.reflect.Constructor;
import java.lang.reflect.Field;
import java.lang.reflect.Method;
import java.lang.reflect.Modifier;
import java.nio.file.Files;
import java.nio.file.Path;
import java.util.TreeSet;

/** The face is that of the document, and the source keeps to those rules of LANGUAGE.md that a search can see. */
public final class FaceTest {
    private static final String SOURCE = "src/main/java/SkateSheet.java";

    private static final String[] FACE = {
        "int couple(int)", "int judge(int)", "int open(int,int)", "int round(int,int)", "int dance()",
        "int cross(int,int,int)", "int cut()", "int begin()", "int sheet(int,int,int)", "int lose(int,int)",
        "boolean penalise(int,int,boolean)", "int close()", "int ofCouple(int,int)", "int meetings(int,int)",
        "int ofJudge(int,int)", "int votes(int,int,int)", "int placed(int,int,int)", "int result(int,int)",
        "int many(int)", "double meanStanding()", "int exchanged(int,int,int,int,int)", "int bestExchange(int,int,int)",
        "int without(int,int)", "int fragile()", "long digest()"};

    private static final String[] OUTSIDE = {"import ", "package ", "->", "::", "catch", "try ", "finally", "Exact(",
        "java.", "synchronized", "assert ", "static {", "System.", "getMessage", "hashCode", "toString", "equals(",
        "protected "};

    private FaceTest() {
    }

    public static void main(String[] args) throws IOException {
        theFaceIsThatOfTheDocument();
        onlyStaticClassesAreInside();
        theSourceKeepsToItsPartOfJava();
        Check.end();
    }

    private static void theFaceIsThatOfTheDocument() {
        Class<?> c = SkateSheet.class;
        Check.due("the class is public and final", c.getModifiers(), Modifier.PUBLIC | Modifier.FINAL);
        TreeSet<String> want = new TreeSet<>();
        TreeSet<String> names = new TreeSet<>();
        for (String method : FACE) {
            want.add(method);
            names.add(method.substring(method.indexOf(' ') + 1, method.indexOf('(')));
        }
        TreeSet<String> found = new TreeSet<>();
        for (Method method : c.getDeclaredMethods()) {
            if (Modifier.isPrivate(method.getModifiers())) {
                Check.due(method.getName() + " is private and named as one of the face",
                        names.contains(method.getName()), false);
                continue;
            }
            String shown = method.toString().replaceFirst(" throws .*", "").replace("SkateSheet.", "");
            found.add(shown.replaceFirst("public ", ""));
        }
        Check.due("the methods", found.toString(), want.toString());
        Constructor<?>[] made = c.getDeclaredConstructors();
        Check.due("constructors", made.length, 1);
        Check.due("its parameters", made[0].getParameterCount(), 0);
        Check.due("it is public", Modifier.isPublic(made[0].getModifiers()), true);
        for (Field field : c.getDeclaredFields()) {
            Check.due(field.getName() + " is private", Modifier.isPrivate(field.getModifiers()), true);
            boolean isStatic = Modifier.isStatic(field.getModifiers());
            Check.due(field.getName() + " is static and not final",
                    isStatic && !Modifier.isFinal(field.getModifiers()), false);
        }
    }

    private static void onlyStaticClassesAreInside() {
        Class<?>[] inside = SkateSheet.class.getDeclaredClasses();
        Check.due("twelve classes inside at most", inside.length <= 12, true);
        for (Class<?> c : inside) {
            Check.due(c.getName() + " is static", Modifier.isStatic(c.getModifiers()), true);
            Check.due(c.getName() + " is public", Modifier.isPublic(c.getModifiers()), false);
            Check.due(c.getName() + " has twenty fields at most", c.getDeclaredFields().length <= 20, true);
        }
    }

    private static void theSourceKeepsToItsPartOfJava() throws IOException {
        String source = Files.readString(Path.of(SOURCE));
        for (String outside : OUTSIDE) {
            Check.due("the source holds \"" + outside + "\"", source.contains(outside), false);
        }
        for (int i = 0; i < source.length(); i++) {
            if (source.charAt(i) > 126) {
                Check.complain("a sign beyond 126 at " + i);
            }
        }
    }
}
