import java.lang.reflect.Constructor;
import java.lang.reflect.Field;
import java.lang.reflect.Method;
import java.lang.reflect.Modifier;
import java.util.ArrayList;
import java.util.Arrays;
import java.util.List;
import java.util.TreeSet;

/** The face of the class is the document's, and nothing else of it can be seen or is shared. */
public final class FaceTest {
    private static final List<String> FACE = Arrays.asList(
        "int put(int, int, long)", "int fetch(int, int)", "long fetched()", "int fail(int)",
        "boolean revive(int)", "boolean damage(int, int, int)", "int repair(int, int)", "int mend(int)",
        "int scrub(int)", "int cost(int, int)", "int rank(int)", "int lost(int)", "long content(int, int)",
        "int node(int, int)", "boolean up(int)", "int count(int)", "int size()");

    private static int wrong = 0;

    private static void due(String what, Object got, Object want) {
        if (!want.equals(got)) {
            wrong++;
            System.out.println(what + ": " + got + ", due is " + want);
        }
    }

    private static String parameters(Class<?>[] types) {
        List<String> names = new ArrayList<>();
        for (Class<?> type : types) {
            names.add(type.getName());
        }
        return "(" + String.join(", ", names) + ")";
    }

    private static void checkMethods() {
        TreeSet<String> seen = new TreeSet<>();
        TreeSet<String> publicNames = new TreeSet<>();
        TreeSet<String> privateNames = new TreeSet<>();
        for (Method method : RepairGroups.class.getDeclaredMethods()) {
            if (method.isSynthetic()) {
                continue;
            }
            if (Modifier.isPrivate(method.getModifiers())) {
                privateNames.add(method.getName());
                continue;
            }
            publicNames.add(method.getName());
            seen.add(method.getReturnType().getName() + " " + method.getName() + parameters(method.getParameterTypes()));
            due(method + " is public and not static", Modifier.isPublic(method.getModifiers())
                && !Modifier.isStatic(method.getModifiers()), true);
            due(method + " declares exceptions", method.getExceptionTypes().length, 0);
        }
        due("methods", seen, new TreeSet<>(FACE));
        privateNames.retainAll(publicNames);
        due("private methods with a public name", privateNames, new TreeSet<String>());
    }

    private static void checkFields(Class<?> type) {
        for (Field field : type.getDeclaredFields()) {
            if (type == RepairGroups.class) {
                due(field + " is private", Modifier.isPrivate(field.getModifiers()), true);
            }
            if (Modifier.isStatic(field.getModifiers())) {
                due(field + " is final", Modifier.isFinal(field.getModifiers()), true);
            }
        }
    }

    public static void main(String[] args) {
        due("the class is public and final", RepairGroups.class.getModifiers(), Modifier.PUBLIC | Modifier.FINAL);
        due("its package", RepairGroups.class.getPackageName(), "");
        Constructor<?>[] constructors = RepairGroups.class.getDeclaredConstructors();
        due("constructors", constructors.length, 1);
        due("constructor", parameters(constructors[0].getParameterTypes()), "(int)");
        due("constructor is public", Modifier.isPublic(constructors[0].getModifiers()), true);
        checkMethods();
        checkFields(RepairGroups.class);
        for (Class<?> inside : RepairGroups.class.getDeclaredClasses()) {
            due(inside + " is static", Modifier.isStatic(inside.getModifiers()), true);
            due(inside + " is public or protected",
                (inside.getModifiers() & (Modifier.PUBLIC | Modifier.PROTECTED)) != 0, false);
            checkFields(inside);
        }
        System.out.println(wrong == 0 ? "the face is as due" : wrong + " things are not as due");
        if (wrong != 0) {
            System.exit(1);
        }
    }
}
