import java.lang.reflect.Constructor;
import java.lang.reflect.Field;
import java.lang.reflect.Method;
import java.lang.reflect.Modifier;
import java.util.Set;
import java.util.TreeSet;

/** The public face is that of the document, no more and no less (rule 1 of LANGUAGE.md). */
public final class FaceTest {
    private static final String[] FACE = {
        "int variable(int)", "int add(int,int,int)", "int put(int,int,int,int)", "int cut()",
        "int ofLine(int,int)", "int state(int,int)", "int holds(int,int)", "boolean isWanted(int,int)",
        "int inTheWay(int,int)", "int ofLoan(int,int)", "int fault(int,int)", "int ofVariable(int,int)",
        "int run()", "int ofRun(int)", "int told(int,int)", "int many(int)", "double meanRead()",
        "int faultsWithout(int)", "int couldDrop(int,int)", "int leakedBy(int)", "int outcomeWith(int,int)",
        "long digest()"
    };

    private static int wrong = 0;

    public static void main(String[] args) {
        Class<?> mill = DropflagMill.class;
        due("is public and final",
            Modifier.isPublic(mill.getModifiers()) && Modifier.isFinal(mill.getModifiers()));
        Set<String> names = new TreeSet<>();
        Set<String> found = new TreeSet<>();
        for (Method method : mill.getDeclaredMethods()) {
            if (Modifier.isPublic(method.getModifiers())) {
                names.add(method.getName());
                found.add(told(method));
                due("no static " + method, !Modifier.isStatic(method.getModifiers()));
            }
        }
        due("the methods of the face", found.equals(new TreeSet<>(Set.of(FACE))));
        for (Method method : mill.getDeclaredMethods()) {
            if (!Modifier.isPublic(method.getModifiers())) {
                due("private: " + method, Modifier.isPrivate(method.getModifiers()));
                due("no name of the face: " + method, !names.contains(method.getName()));
            }
        }
        Constructor<?>[] makers = mill.getDeclaredConstructors();
        due("one public constructor", makers.length == 1 && makers[0].getParameterCount() == 0
            && Modifier.isPublic(makers[0].getModifiers()));
        for (Field field : mill.getDeclaredFields()) {
            due("private: " + field, Modifier.isPrivate(field.getModifiers()));
        }
        for (Class<?> inside : mill.getDeclaredClasses()) {
            due("static: " + inside, Modifier.isStatic(inside.getModifiers()));
            due("not public: " + inside, !Modifier.isPublic(inside.getModifiers())
                && !Modifier.isProtected(inside.getModifiers()));
        }
        System.exit(wrong == 0 ? 0 : 1);
    }

    private static String told(Method method) {
        StringBuilder text = new StringBuilder(method.getReturnType() + " " + method.getName() + "(");
        Class<?>[] types = method.getParameterTypes();
        for (int i = 0; i < types.length; i++) {
            text.append(i == 0 ? "" : ",").append(types[i]);
        }
        return text.append(")").toString();
    }

    private static void due(String what, boolean holds) {
        if (!holds) {
            wrong++;
            System.out.println("wrong: " + what);
        }
    }
}
