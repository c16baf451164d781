import java.io.IOException;
import java.lang.reflect.Field;
import java.lang.reflect.Method;
import java.lang.reflect.Modifier;
import java.nio.file.Files;
import java.nio.file.Path;
import java.util.ArrayList;
import java.util.List;
import java.util.Set;
import java.util.regex.Matcher;
import java.util.regex.Pattern;

/** Those rules of LANGUAGE.md that can be seen from outside or by a search of the source. */
public final class LanguageTest {
    private static final Path SOURCE = Path.of("src/main/java/AmendsLedger.java");
    private static final Set<String> STATIC_TYPES = Set.of("int", "long", "boolean", "char",
            "String", "int[]", "long[]", "char[]", "byte[]");
    private static final Set<String> IMPORTS = Set.of("java.util.Arrays", "java.util.ArrayList",
            "java.util.List", "java.util.Iterator", "java.util.NoSuchElementException");
    /** The rules say "some sixty", "some twelve" and "some twenty". */
    private static final int LONGEST_METHOD = 65;
    private static final int MOST_CLASSES = 13;
    private static final int MOST_FIELDS = 22;
    private static final int MOST_PARAMETERS = 7;

    private static final List<String> NOT_WRITTEN = List.of("::", "\\bassert\\b",
            "\\bfinally\\b", "\\bsynchronized\\b", "\\bnative\\b", "\\w+Exact\\b",
            "\\bDouble\\b", "\\bSystem\\.(?!arraycopy)", "(?m)^package\\b",
            "\\bThread\\b", "\\bstatic \\{");

    private static final Checks CHECKS = new Checks("LanguageTest");

    public static void main(String[] args) throws IOException {
        List<Class<?>> all = new ArrayList<>(List.of(AmendsLedger.class.getDeclaredClasses()));
        rule1ClassesInside(all);
        all.add(AmendsLedger.class);
        for (Class<?> each : all) {
            rule2NoLambda(each);
            rule5StaticFields(each);
            rule11Sizes(each);
        }
        CHECKS.due("rule 11: few classes", Math.max(all.size(), MOST_CLASSES), MOST_CLASSES);
        String source = Files.readString(SOURCE);
        rule4Imports(source);
        notWritten(source);
        rule11MethodLengths(source);
        CHECKS.end();
    }

    private static void rule1ClassesInside(List<Class<?>> all) {
        for (Class<?> each : all) {
            int open = each.getModifiers() & (Modifier.PUBLIC | Modifier.PROTECTED);
            CHECKS.due("rule 1: " + each + " is not open", open, 0);
        }
    }

    private static void rule2NoLambda(Class<?> it) {
        for (Method method : it.getDeclaredMethods()) {
            CHECKS.due("rule 2: " + method, method.getName().startsWith("lambda$") ? 1 : 0, 0);
        }
    }

    private static void rule5StaticFields(Class<?> it) {
        for (Field field : it.getDeclaredFields()) {
            if (Modifier.isStatic(field.getModifiers()) && !field.isSynthetic()) {
                CHECKS.due("rule 5: " + field + " is final", field.getModifiers() & Modifier.FINAL,
                        Modifier.FINAL);
                Class<?> type = field.getType();
                Class<?> part = type.isArray() ? type.getComponentType() : type;
                boolean allowed = part.isEnum() || STATIC_TYPES.contains(type.getSimpleName());
                CHECKS.due("rule 5: " + field + " is a constant", allowed ? 1 : 0, 1);
            }
        }
    }

    private static void rule11Sizes(Class<?> it) {
        int fields = 0;
        for (Field field : it.getDeclaredFields()) {
            fields += Modifier.isStatic(field.getModifiers()) ? 0 : 1;
        }
        CHECKS.due("rule 11: fields of " + it, Math.max(fields, MOST_FIELDS), MOST_FIELDS);
        for (Method method : it.getDeclaredMethods()) {
            CHECKS.due("rule 11: parameters of " + method,
                    Math.max(MOST_PARAMETERS, method.getParameterCount()), MOST_PARAMETERS);
        }
    }

    private static void rule4Imports(String source) {
        Matcher imports = Pattern.compile("(?m)^import (.*);$").matcher(source);
        while (imports.find()) {
            CHECKS.due("rule 4: import " + imports.group(1),
                    IMPORTS.contains(imports.group(1)) ? 1 : 0, 1);
        }
        CHECKS.due("rule 4: signs are 1 to 127", source.chars().allMatch(c -> c < 128) ? 1 : 0, 1);
    }

    private static void notWritten(String source) {
        String code = source.replaceAll("(?s)/\\*.*?\\*/", "").replaceAll("//[^\n]*", "");
        for (String pattern : NOT_WRITTEN) {
            Matcher matcher = Pattern.compile(pattern).matcher(code);
            CHECKS.due("not written: " + pattern, matcher.find() ? matcher.group() : "", "");
        }
    }

    /** A method begins with a line that ends in "{" and ends with "}" at the same indent. */
    private static void rule11MethodLengths(String source) {
        String[] lines = source.split("\n");
        for (int start = 0; start < lines.length; start++) {
            String line = lines[start];
            String indent = line.substring(0, line.length() - line.stripLeading().length());
            boolean isMethod = line.endsWith("{") && line.contains(")") && !line.contains(" class ")
                    && (indent.length() == 4 || indent.length() == 8)
                    && !line.trim().matches("(if|for|while|switch|\\}).*");
            int end = start;
            while (isMethod && end < lines.length && !lines[end].equals(indent + "}")) {
                end++;
            }
            CHECKS.due("rule 11: lines of " + line.trim(),
                    Math.max(end - start + 1, LONGEST_METHOD), LONGEST_METHOD);
        }
    }
}
