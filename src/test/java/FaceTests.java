import java.lang.reflect.Constructor;
import java.lang.reflect.Field;
import java.lang.reflect.Method;
import java.lang.reflect.Modifier;
import java.util.ArrayList;
import java.util.Arrays;
import java.util.List;
import java.util.TreeSet;

/** The class has the document's face and no other member that can be seen. */
public final class FaceTests {
    private static int wrong = 0;

    private static void due(String what, Object got, Object want) {
        if (!want.equals(got)) {
            wrong++;
            System.out.println(what + ": " + got + ", due is " + want);
        }
    }

    private static TreeSet<String> face() {
        return new TreeSet<>(Arrays.asList(
            "public int point(int, int, int, int)", "public boolean next(int, int, int)", "public boolean isReached(int)",
            "public int holders(int, int)", "public int used(int)", "public boolean isAlive(int, int)",
            "public int met(int, int)", "public int count(int)", "public int clear()"));
    }

    private static String told(Method method) {
        List<String> parameters = new ArrayList<>();
        for (Class<?> type : method.getParameterTypes()) {
            parameters.add(type.getName());
        }
        return Modifier.toString(method.getModifiers()) + " " + method.getReturnType().getName() + " " + method.getName()
            + "(" + String.join(", ", parameters) + ")";
    }

    private static boolean isSeen(int modifiers) {
        return !Modifier.isPrivate(modifiers);
    }

    private static void checkMethods() {
        TreeSet<String> seen = new TreeSet<>();
        TreeSet<String> publicNames = new TreeSet<>();
        for (Method method : LoanDesk.class.getDeclaredMethods()) {
            if (!method.isSynthetic() && isSeen(method.getModifiers())) {
                seen.add(told(method));
                publicNames.add(method.getName());
            }
        }
        due("methods", seen, face());
        for (Method method : LoanDesk.class.getDeclaredMethods()) {
            boolean clashes = !isSeen(method.getModifiers()) && publicNames.contains(method.getName());
            due("private method " + method.getName() + " bears a public name", clashes, false);
        }
    }

    private static void checkFields(Class<?> owner, boolean mayBeSeen) {
        for (Field field : owner.getDeclaredFields()) {
            int modifiers = field.getModifiers();
            due("field " + field.getName() + " is seen", !mayBeSeen && !field.isSynthetic() && isSeen(modifiers), false);
            due("static field " + field.getName() + " is not final", Modifier.isStatic(modifiers) && !Modifier.isFinal(modifiers), false);
        }
    }

    public static void main(String[] args) {
        due("public and final", Modifier.toString(LoanDesk.class.getModifiers()), "public final");
        due("without a package", LoanDesk.class.getPackageName(), "");
        Constructor<?>[] constructors = LoanDesk.class.getDeclaredConstructors();
        due("constructors", constructors.length, 1);
        due("constructor", constructors[0].toString(), "public LoanDesk()");
        checkMethods();
        checkFields(LoanDesk.class, false);
        for (Class<?> inside : LoanDesk.class.getDeclaredClasses()) {
            int modifiers = inside.getModifiers();
            due(inside + " is static", Modifier.isStatic(modifiers), true);
            due(inside + " is public or protected", Modifier.isPublic(modifiers) || Modifier.isProtected(modifiers), false);
            checkFields(inside, true);
        }
        System.out.println(wrong == 0 ? "the face is the document's" : wrong + " faults of the face");
        if (wrong != 0) {
            System.exit(1);
        }
    }
}
