import java.io.IOException;
import java.lang.reflect.Constructor;
import java.lang.reflect.Field;
import java.lang.reflect.Method;
import java.lang.reflect.Modifier;
import java.nio.file.Files;
import java.nio.file.Path;
import java.util.ArrayList;
import java.util.List;
import java.util.Set;
import java.util.TreeSet;

/**
 * The public face is that of the document, no more and no less (rule 1 of LANGUAGE.md), in its words and its order,
 * with what "the interface says" ahead of the calls.
 */
public final class FaceTest {
    private static final String FILE = "src/main/java/DropflagMill.java";
    private static final String INDEX = "IndexOutOfBoundsException";
    private static final String ARGUMENT = "IllegalArgumentException";
    private static final String STATE = "IllegalStateException";
    private static final String[] HEADS = {
        "public final class DropflagMill",
        "public DropflagMill()",
        "// ---- variables and lines",
        "public int variable(int kind) throws " + ARGUMENT + ", " + STATE,
        "public int add(int sort, int a, int b) throws " + ARGUMENT + ", " + STATE,
        "public int put(int line, int sort, int a, int b) throws " + INDEX + ", " + ARGUMENT + ", " + STATE,
        "public int cut() throws " + STATE,
        "public int ofLine(int line, int what) throws " + INDEX + ", " + ARGUMENT,
        "// ---- what is checked",
        "public int state(int line, int place) throws " + INDEX,
        "public int holds(int line, int variable) throws " + INDEX,
        "public boolean isWanted(int line, int variable) throws " + INDEX,
        "public int inTheWay(int line, int place) throws " + INDEX,
        "public int ofLoan(int loan, int what) throws " + INDEX + ", " + ARGUMENT,
        "public int fault(int k, int what) throws " + INDEX + ", " + ARGUMENT,
        "public int ofVariable(int variable, int what) throws " + INDEX + ", " + ARGUMENT,
        "// ---- runs",
        "public int run() throws " + STATE,
        "public int ofRun(int what) throws " + ARGUMENT,
        "public int told(int k, int what) throws " + INDEX + ", " + ARGUMENT,
        "public int many(int what) throws " + ARGUMENT,
        "public double meanRead()",
        "// ---- what would be (nothing is changed)",
        "public int faultsWithout(int line) throws " + INDEX,
        "public int couldDrop(int line, int place) throws " + INDEX,
        "public int leakedBy(int line) throws " + INDEX,
        "public int outcomeWith(int line, int number) throws " + INDEX + ", " + ARGUMENT,
        "public long digest()"
    };

    private static int wrong = 0;

    public static void main(String[] args) throws IOException {
        headsStandInTheFile();
        Class<?> mill = DropflagMill.class;
        due("is public and final",
            Modifier.isPublic(mill.getModifiers()) && Modifier.isFinal(mill.getModifiers()));
        Set<String> names = new TreeSet<>();
        Set<String> found = new TreeSet<>();
        for (Method method : mill.getDeclaredMethods()) {
            if (Modifier.isPublic(method.getModifiers())) {
                names.add(method.getName());
                found.add(told(method));
                due("no static " + method, !Modifier.isStatic(method.getModifiers()));
            }
        }
        due("the methods of the face: " + found, found.equals(methodsOfTheFace()));
        for (Method method : mill.getDeclaredMethods()) {
            if (!Modifier.isPublic(method.getModifiers())) {
                due("private: " + method, Modifier.isPrivate(method.getModifiers()));
                due("no name of the face: " + method, !names.contains(method.getName()));
            }
        }
        Constructor<?>[] makers = mill.getDeclaredConstructors();
        due("one public constructor", makers.length == 1 && makers[0].getParameterCount() == 0
            && Modifier.isPublic(makers[0].getModifiers()));
        for (Field field : mill.getDeclaredFields()) {
            due("private: " + field, Modifier.isPrivate(field.getModifiers()));
        }
        for (Class<?> inside : mill.getDeclaredClasses()) {
            due("static: " + inside, Modifier.isStatic(inside.getModifiers()));
            due("not public: " + inside, !Modifier.isPublic(inside.getModifiers())
                && !Modifier.isProtected(inside.getModifiers()));
        }
        System.exit(wrong == 0 ? 0 : 1);
    }

    /** The document's heads, each once, and in its order. */
    private static void headsStandInTheFile() throws IOException {
        String text = Files.readString(Path.of(FILE)).replaceAll("\\s+", " ");
        int behind = 0;
        for (String head : HEADS) {
            String whole = head.startsWith("//") ? " " + head + " public " : " " + head + " { ";
            int at = text.indexOf(whole);
            due("in its order: " + head, at >= behind);
            due("once: " + head, at == text.lastIndexOf(whole));
            behind = Math.max(behind, at);
        }
    }

    /** The heads of methods as told() tells them: without the names of the parameters. */
    private static Set<String> methodsOfTheFace() {
        Set<String> methods = new TreeSet<>();
        for (String head : HEADS) {
            if (head.matches("public (int|long|double|boolean) .*")) {
                methods.add(head.substring("public ".length()).replaceAll("int [a-z]+([,)])", "int$1"));
            }
        }
        return methods;
    }

    private static String told(Method method) {
        List<String> types = new ArrayList<>();
        for (Class<?> type : method.getParameterTypes()) {
            types.add(type.getSimpleName());
        }
        List<String> thrown = new ArrayList<>();
        for (Class<?> type : method.getExceptionTypes()) {
            thrown.add(type.getSimpleName());
        }
        return method.getReturnType() + " " + method.getName() + "(" + String.join(", ", types) + ")"
            + (thrown.isEmpty() ? "" : " throws " + String.join(", ", thrown));
    }

    private static void due(String what, boolean holds) {
        if (!holds) {
            wrong++;
            System.out.println("wrong: " + what);
        }
    }
}
