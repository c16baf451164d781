import java.io.IOException;
import java.lang.reflect.Constructor;
import java.lang.reflect.Field;
import java.lang.reflect.Method;
import java.lang.reflect.Modifier;
import java.nio.file.Files;
import java.nio.file.Path;
import java.util.List;
import java.util.Set;
import java.util.TreeSet;
import java.util.regex.Matcher;
import java.util.regex.Pattern;

/** The public face, and those rules of LANGUAGE.md that can be seen from outside. */
public final class FaceTest {
    private static final Path SOURCE = Path.of("src/main/java/AmendsLedger.java");
    private static final String INDEX = "IndexOutOfBoundsException ";
    private static final String ARGUMENT = "IllegalArgumentException ";
    private static final String STATE = "IllegalStateException ";
    private static final Set<String> STATIC_TYPES = Set.of("int", "long", "boolean", "char",
            "String", "int[]", "long[]", "char[]", "byte[]");
    private static final int LONGEST_METHOD = 60;
    private static final int MOST_CLASSES = 12;
    private static final int MOST_FIELDS = 20;
    private static final int MOST_PARAMETERS = 7;

    private static final Set<String> FACE = Set.of(
            "int offer 4 " + INDEX + ARGUMENT + STATE,
            "int takeOff 2 " + INDEX + STATE,
            "int base 2 " + INDEX + ARGUMENT,
            "int set 2 " + INDEX + ARGUMENT,
            "int complain 3 " + INDEX + ARGUMENT + STATE,
            "int decide 3 " + INDEX + ARGUMENT + STATE,
            "int appeal 1 " + INDEX + STATE,
            "int judge 2 " + INDEX + STATE,
            "int closeMonth 0 " + STATE,
            "int append 1 " + ARGUMENT + STATE,
            "int clearBuffer 0 ",
            "int firstError 0 ",
            "int complainAll 0 " + ARGUMENT + STATE,
            "int undo 0 " + STATE,
            "int complaint 2 " + INDEX + ARGUMENT,
            "int amends 3 " + INDEX + ARGUMENT,
            "int precedent 3 " + INDEX + ARGUMENT,
            "int kind 2 " + INDEX + ARGUMENT,
            "int count 1 " + ARGUMENT,
            "int setting 1 " + INDEX,
            "int ofCustomer 2 " + INDEX + ARGUMENT,
            "int whyNot 3 " + INDEX + ARGUMENT,
            "int fair 1 " + INDEX,
            "int ifJudged 3 " + INDEX + ARGUMENT,
            "int monthsToEqual 0 ",
            "double followShare 0 ",
            "long digest 0 ");

    private static final List<String> NOT_WRITTEN = List.of("->", "::", "\\bassert\\b",
            "\\bfinally\\b", "\\bsynchronized\\b", "\\btry\\b", "\\bcatch\\b", "\\bnative\\b",
            "\\bDouble\\.", "\\bthrows?\\s+new\\s+(?!Ill|Ind)", "\\w+Exact\\b",
            "\\bSystem\\.(?!arraycopy)", "\\bMath\\.(?!min|max)", "\\bpackage\\b", "\\bThread\\b");

    private static final Checks CHECKS = new Checks("FaceTest");

    public static void main(String[] args) throws IOException {
        theClass();
        theMethods();
        theFields();
        theNestedClasses();
        theSource();
        CHECKS.end();
    }

    private static void theClass() {
        Class<?> it = AmendsLedger.class;
        CHECKS.due("public and final", it.getModifiers(), Modifier.PUBLIC | Modifier.FINAL);
        CHECKS.due("package", it.getPackageName(), "");
        Constructor<?>[] constructors = it.getDeclaredConstructors();
        CHECKS.due("constructors", constructors.length, 1);
        CHECKS.due("its parameters", constructors[0].getParameterCount(), 0);
        CHECKS.due("it is public", constructors[0].getModifiers(), Modifier.PUBLIC);
    }

    private static void theMethods() {
        Set<String> found = new TreeSet<>();
        for (Method method : AmendsLedger.class.getDeclaredMethods()) {
            if (Modifier.isPublic(method.getModifiers())) {
                found.add(told(method));
            } else {
                CHECKS.due(method + " is private", method.getModifiers() & Modifier.PRIVATE,
                        Modifier.PRIVATE);
                CHECKS.due(method + " has a name of its own", isOfFace(method.getName()), 0);
            }
            CHECKS.due(method + " is short of parameters",
                    Math.max(MOST_PARAMETERS, method.getParameterCount()), MOST_PARAMETERS);
        }
        CHECKS.due("public methods", found.toString(), new TreeSet<>(FACE).toString());
    }

    private static String told(Method method) {
        StringBuilder told = new StringBuilder();
        told.append(method.getReturnType()).append(' ').append(method.getName()).append(' ')
                .append(method.getParameterCount()).append(' ');
        for (Class<?> parameter : method.getParameterTypes()) {
            CHECKS.due("a parameter of " + method.getName(), parameter.getName(), "int");
        }
        for (Class<?> thrown : method.getExceptionTypes()) {
            told.append(thrown.getSimpleName()).append(' ');
        }
        return told.toString();
    }

    private static int isOfFace(String name) {
        return (int) FACE.stream().filter(line -> line.split(" ")[1].equals(name)).count();
    }

    private static void theFields() {
        int constants = Modifier.PUBLIC | Modifier.STATIC | Modifier.FINAL;
        for (Field field : AmendsLedger.class.getDeclaredFields()) {
            if (field.getName().equals("NONE")) {
                CHECKS.due("NONE", field.getModifiers(), constants);
            } else {
                CHECKS.due(field + " is private", field.getModifiers() & Modifier.PRIVATE,
                        Modifier.PRIVATE);
            }
            if (Modifier.isStatic(field.getModifiers())) {
                CHECKS.due(field + " is final", field.getModifiers() & Modifier.FINAL,
                        Modifier.FINAL);
                String type = field.getType().getSimpleName();
                CHECKS.due(field + " is a constant", STATIC_TYPES.contains(type) ? 1 : 0, 1);
            }
        }
    }

    private static void theNestedClasses() {
        Class<?>[] nested = AmendsLedger.class.getDeclaredClasses();
        CHECKS.due("few classes", Math.max(nested.length, MOST_CLASSES - 1), MOST_CLASSES - 1);
        for (Class<?> each : nested) {
            int wanted = Modifier.STATIC | Modifier.PRIVATE;
            CHECKS.due(each + " is static and private", each.getModifiers() & wanted, wanted);
            CHECKS.due(each + " has few fields",
                    Math.max(each.getDeclaredFields().length, MOST_FIELDS), MOST_FIELDS);
            for (Method method : each.getDeclaredMethods()) {
                CHECKS.due(method + " has a name of its own", isOfFace(method.getName()), 0);
            }
        }
    }

    private static void theSource() throws IOException {
        String source = Files.readString(SOURCE);
        String code = source.replaceAll("(?s)/\\*.*?\\*/", "").replaceAll("//[^\n]*", "");
        for (String pattern : NOT_WRITTEN) {
            Matcher matcher = Pattern.compile(pattern).matcher(code);
            CHECKS.due("not written: " + pattern, matcher.find() ? matcher.group() : "", "");
        }
        Matcher imports = Pattern.compile("(?m)^import (.*);$").matcher(code);
        while (imports.find()) {
            CHECKS.due("import", imports.group(1), "java.util.Arrays");
        }
        CHECKS.due("signs are 1 to 127", source.chars().allMatch(c -> c < 128) ? 1 : 0, 1);
        methodLengths(source);
    }

    /** A method begins with a line that ends in "{" and ends with "}" at the same indent. */
    private static void methodLengths(String source) {
        String[] lines = source.split("\n");
        for (int start = 0; start < lines.length; start++) {
            String line = lines[start];
            String indent = line.substring(0, line.length() - line.stripLeading().length());
            boolean isMethod = line.endsWith("{") && line.contains(")") && !line.contains(" class ")
                    && (indent.length() == 4 || indent.length() == 8)
                    && !line.trim().matches("(if|for|while|switch|\\}).*");
            int end = start;
            while (isMethod && end < lines.length && !lines[end].equals(indent + "}")) {
                end++;
            }
            CHECKS.due("lines of " + line.trim(), Math.max(end - start + 1, LONGEST_METHOD),
                    LONGEST_METHOD);
        }
    }
}
