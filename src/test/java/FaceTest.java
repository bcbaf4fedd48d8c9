import java.io.IOException;
import java.lang.reflect.Constructor;
import java.lang.reflect.Field;
import java.lang.reflect.Method;
import java.lang.reflect.Modifier;
import java.nio.file.Files;
import java.nio.file.Path;
import java.util.Arrays;
import java.util.Set;
import java.util.TreeSet;
import java.util.regex.Pattern;

/** The face of the document by reflection, and the rules of LANGUAGE.md that a look at the source can tell. */
public final class FaceTest {
    private static final String[] FACE = {
        "int append(int,int,int,int,int) IllegalStateException", "int truncate(int) IllegalArgumentException",
        "int readText() IllegalArgumentException", "int runOrders() IllegalArgumentException", "int errorCode()",
        "int errorPosition()", "int size(int) IllegalArgumentException",
        "int task(int,int) IndexOutOfBoundsException IllegalArgumentException", "int letter(int,int) IndexOutOfBoundsException",
        "int group(int,int) IndexOutOfBoundsException IllegalArgumentException",
        "int arrow(int,int) IndexOutOfBoundsException IllegalArgumentException", "int arrowOf(int,int) IndexOutOfBoundsException",
        "boolean reaches(int,int) IndexOutOfBoundsException", "int far(int,int) IndexOutOfBoundsException",
        "int on(int,int,int) IndexOutOfBoundsException",
        "int trial(int,int,int) IndexOutOfBoundsException IllegalArgumentException",
        "int why(int,int,int) IndexOutOfBoundsException IllegalArgumentException", "int bestMode(int,int) IndexOutOfBoundsException",
        "int leastPlace(int) IndexOutOfBoundsException", "int mostPlace(int) IndexOutOfBoundsException",
        "int fresh(int) IndexOutOfBoundsException", "int turned()", "int length()", "int tight()", "int gap()", "int weakest()",
        "int needless()", "long account(int) IllegalArgumentException", "float innerShare()", "double meanMoved()",
        "int make(int) IllegalArgumentException", "int add(int,int) IndexOutOfBoundsException",
        "int cut(int) IndexOutOfBoundsException", "int swap(int) IndexOutOfBoundsException",
        "int setHours(int,int) IndexOutOfBoundsException IllegalArgumentException", "int set(int,int) IllegalArgumentException",
        "int refresh()", "int writeOrder()", "int writeArrows(int) IndexOutOfBoundsException", "int outputByte(int)", "int undo()",
        "int save()", "int restore() IllegalStateException",
    };
    /** What the rules forbid, as patterns over the source without comments and texts. */
    private static final String[] FORBIDDEN = {
        "^\\s*package\\b", "->", "::", "\\bfinally\\b", "\\bsynchronized\\b", "\\bassert\\b", "\\btry\\b", "\\bcatch\\b",
        "\\binstanceof\\b", "\\bstatic\\s*\\{", "\\bprotected\\b", "Exact\\b", "\\bSystem\\.(?!arraycopy\\b)",
        "\\bMath\\.(?!max\\b|min\\b)", "\\bRandom\\b", "\\bThread\\b", "\\bwhile\\s*\\(true\\)", "\\bfor\\s*\\(\\s*;",
        "\\bNaN\\b", "\\bObject\\b", "\\bvar\\b",
    };

    private FaceTest() {
    }

    public static void main(String[] args) throws IOException {
        face();
        nestedClasses();
        source();
        Check.end("FaceTest");
    }

    private static String text(Method method) {
        StringBuilder text = new StringBuilder(method.getReturnType().getName()).append(' ').append(method.getName()).append('(');
        for (int k = 0; k < method.getParameterCount(); k++) {
            text.append(k == 0 ? "" : ",").append(method.getParameterTypes()[k].getName());
        }
        text.append(')');
        for (Class<?> thrown : method.getExceptionTypes()) {
            text.append(' ').append(thrown.getSimpleName());
        }
        return text.toString();
    }

    private static void face() {
        Class<RingFreeOrder> face = RingFreeOrder.class;
        Check.same("public final", face.getModifiers(), Modifier.PUBLIC | Modifier.FINAL);
        Set<String> methods = new TreeSet<>();
        for (Method method : face.getDeclaredMethods()) {
            if (!Modifier.isPrivate(method.getModifiers()) && !method.isSynthetic()) {
                methods.add((method.getModifiers() == Modifier.PUBLIC ? "" : "not plain public: ") + text(method));
            }
        }
        Check.same("methods", methods.toString(), new TreeSet<>(Arrays.asList(FACE)).toString());
        for (Field field : face.getDeclaredFields()) {
            boolean constant = field.getName().equals("NONE");
            Check.same("field " + field.getName(), Modifier.isPrivate(field.getModifiers()) ? 0 : 1, constant ? 1 : 0);
            checkStatic(field);
        }
        Constructor<?>[] constructors = face.getDeclaredConstructors();
        Check.same("constructors", constructors.length, 1);
        Check.same("no parameters", constructors[0].getParameterCount(), 0);
        Check.same("public constructor", constructors[0].getModifiers(), Modifier.PUBLIC);
    }

    private static void checkStatic(Field field) {
        if (Modifier.isStatic(field.getModifiers()) && !field.isSynthetic()) {
            Check.same("static is final: " + field, Modifier.isFinal(field.getModifiers()) ? 1 : 0, 1);
        }
    }

    private static void nestedClasses() {
        Set<String> names = new TreeSet<>();
        for (String one : FACE) {
            names.add(one.substring(one.indexOf(' ') + 1, one.indexOf('(')));
        }
        Class<?>[] nested = RingFreeOrder.class.getDeclaredClasses();
        Check.same("at most twelve classes", nested.length < 12 ? 1 : 0, 1);
        for (Class<?> one : nested) {
            Check.same("static: " + one, Modifier.isStatic(one.getModifiers()) ? 1 : 0, 1);
            Check.same("not public: " + one, Modifier.isPublic(one.getModifiers()) ? 1 : 0, 0);
            int fields = 0;
            for (Field field : one.getDeclaredFields()) {
                checkStatic(field);
                fields += Modifier.isStatic(field.getModifiers()) ? 0 : 1;
            }
            Check.same("at most twenty fields: " + one, fields <= 20 ? 1 : 0, 1);
            for (Method method : one.getDeclaredMethods()) {
                Check.same("bears no public name: " + method, names.contains(method.getName()) ? 1 : 0, 0);
                Check.same("seven parameters: " + method, method.getParameterCount() <= 7 ? 1 : 0, 1);
            }
        }
    }

    private static void source() throws IOException {
        String text = Files.readString(Path.of("src/main/java/RingFreeOrder.java"));
        String plain = text.replaceAll("(?s)/\\*.*?\\*/", "").replaceAll("//[^\n]*", "").replaceAll("\"[^\"\n]*\"", "\"\"");
        for (String forbidden : FORBIDDEN) {
            boolean found = Pattern.compile(forbidden, Pattern.MULTILINE).matcher(plain).find();
            Check.same("rule broken: " + forbidden, found ? 1 : 0, 0);
        }
        int lines = 0;
        for (String line : plain.split("\n")) {
            if (line.startsWith("import ")) {
                Check.same("import", line, "import java.util.Arrays;");
            }
            // a method of the face stands four deep, one of a class inside it eight deep
            boolean opens = line.matches(" {4}( {4})?[a-z].*\\) ?(throws [A-Za-z, ]+)?\\{");
            lines = opens ? 0 : lines + 1;
            if (line.matches(" {4}( {4})?\\}")) {
                Check.same("a method of at most sixty lines", lines <= 60 || line.equals("    }") ? 1 : 0, 1);
            }
        }
    }
}
