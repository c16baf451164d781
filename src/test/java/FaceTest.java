import java.lang.reflect.Constructor;
import java.lang.reflect.Field;
import java.lang.reflect.Method;
import java.lang.reflect.Modifier;
import java.util.Set;
import java.util.TreeSet;

/** The public face: the document's constant, constructor and methods, and nothing else. */
public final class FaceTest {
    private static final String INDEX = "IndexOutOfBoundsException ";
    private static final String ARGUMENT = "IllegalArgumentException ";
    private static final String STATE = "IllegalStateException ";

    private static final Set<String> FACE = Set.of(
            "int offer 4 " + INDEX + ARGUMENT + STATE,
            "int takeOff 2 " + INDEX + STATE,
            "int base 2 " + INDEX + ARGUMENT,
            "int set 2 " + INDEX + ARGUMENT,
            "int complain 3 " + INDEX + ARGUMENT + STATE,
            "int decide 3 " + INDEX + ARGUMENT + STATE,
            "int appeal 1 " + INDEX + STATE,
            "int judge 2 " + INDEX + STATE,
            "int closeMonth 0 " + STATE,
            "int append 1 " + ARGUMENT + STATE,
            "int clearBuffer 0 ",
            "int firstError 0 ",
            "int complainAll 0 " + ARGUMENT + STATE,
            "int undo 0 " + STATE,
            "int complaint 2 " + INDEX + ARGUMENT,
            "int amends 3 " + INDEX + ARGUMENT,
            "int precedent 3 " + INDEX + ARGUMENT,
            "int kind 2 " + INDEX + ARGUMENT,
            "int count 1 " + ARGUMENT,
            "int setting 1 " + INDEX,
            "int ofCustomer 2 " + INDEX + ARGUMENT,
            "int whyNot 3 " + INDEX + ARGUMENT,
            "int fair 1 " + INDEX,
            "int ifJudged 3 " + INDEX + ARGUMENT,
            "int monthsToEqual 0 ",
            "double followShare 0 ",
            "long digest 0 ");

    private static final Checks CHECKS = new Checks("FaceTest");

    public static void main(String[] args) {
        theClass();
        theMethods();
        theFields();
        CHECKS.end();
    }

    private static void theClass() {
        Class<?> it = AmendsLedger.class;
        CHECKS.due("public and final", it.getModifiers(), Modifier.PUBLIC | Modifier.FINAL);
        CHECKS.due("package", it.getPackageName(), "");
        Constructor<?>[] constructors = it.getDeclaredConstructors();
        CHECKS.due("constructors", constructors.length, 1);
        CHECKS.due("its parameters", constructors[0].getParameterCount(), 0);
        CHECKS.due("it is public", constructors[0].getModifiers(), Modifier.PUBLIC);
    }

    private static void theMethods() {
        Set<String> found = new TreeSet<>();
        for (Method method : AmendsLedger.class.getDeclaredMethods()) {
            if (Modifier.isPublic(method.getModifiers())) {
                found.add(told(method));
            } else {
                CHECKS.due(method + " is private", method.getModifiers() & Modifier.PRIVATE,
                        Modifier.PRIVATE);
                CHECKS.due(method + " has a name of its own", isOfFace(method.getName()), 0);
            }
        }
        CHECKS.due("public methods", found.toString(), new TreeSet<>(FACE).toString());
    }

    private static String told(Method method) {
        StringBuilder told = new StringBuilder();
        told.append(method.getReturnType()).append(' ').append(method.getName()).append(' ')
                .append(method.getParameterCount()).append(' ');
        for (Class<?> parameter : method.getParameterTypes()) {
            CHECKS.due("a parameter of " + method.getName(), parameter.getName(), "int");
        }
        for (Class<?> thrown : method.getExceptionTypes()) {
            told.append(thrown.getSimpleName()).append(' ');
        }
        return told.toString();
    }

    private static int isOfFace(String name) {
        return (int) FACE.stream().filter(line -> line.split(" ")[1].equals(name)).count();
    }

    private static void theFields() {
        int constants = Modifier.PUBLIC | Modifier.STATIC | Modifier.FINAL;
        for (Field field : AmendsLedger.class.getDeclaredFields()) {
            if (field.getName().equals("NONE")) {
                CHECKS.due("NONE", field.getModifiers(), constants);
            } else if (!field.isSynthetic()) {
                CHECKS.due(field + " is private", field.getModifiers() & Modifier.PRIVATE,
                        Modifier.PRIVATE);
            }
        }
        CHECKS.due("NONE", AmendsLedger.NONE, -1);
    }
}
