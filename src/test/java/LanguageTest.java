import java.io.IOException;
import java.lang.reflect.Constructor;
import java.lang.reflect.Field;
import java.lang.reflect.Method;
import java.lang.reflect.Modifier;
import java.nio.file.Files;
import java.nio.file.Path;
import java.util.ArrayList;
import java.util.List;
import java.util.Set;
import java.util.TreeSet;
import java.util.regex.Matcher;
import java.util.regex.Pattern;

/**
 * The rules of LANGUAGE.md, by their numbers, as far as they can be seen by reflection or in the text.
 * The class needs less than the rules leave, so some of these tests are narrower than their rule.
 */
public final class LanguageTest {
    private static final Check check = new Check("LanguageTest");
    private static final Set<String> EXCEPTIONS = Set.of("IllegalStateException", "IllegalArgumentException",
            "IndexOutOfBoundsException", "ArithmeticException", "UnsupportedOperationException",
            "NoSuchElementException", "RuntimeException");
    private static final Set<String> IMPORTS = Set.of("java.util.NoSuchElementException", "java.util.ArrayList",
            "java.util.List", "java.util.Arrays", "java.util.Iterator");
    private static final Set<Class<?>> LIBRARY_TYPES =
            Set.of(String.class, StringBuilder.class, Integer.class, ArrayList.class, List.class);
    private static final Set<String> STATIC_CALLS = Set.of("System.arraycopy", "Arrays.copyOf", "Arrays.copyOfRange",
            "Arrays.fill", "List.of", "Math.max", "Math.min", "Math.abs", "Math.floorDiv", "Math.floorMod",
            "Integer.compare", "Integer.max", "Integer.min", "Integer.bitCount", "Long.bitCount");

    public static void main(String[] args) throws IOException {
        String source = Files.readString(Path.of("src/main/java/FrostCalendar.java"));
        String code = withoutCommentsAndTexts(source);
        List<Class<?>> classes = new ArrayList<>();
        classes.add(FrostCalendar.class);
        classes.addAll(List.of(FrostCalendar.class.getDeclaredClasses()));
        rule1(code, classes);
        rules2And3(classes);
        rule4(source, code);
        rule5(classes);
        rule6(code);
        rule11(code, classes);
        check.close();
    }

    /** Texts stay as "", so that a throw is seen to have one. */
    private static String withoutCommentsAndTexts(String source) {
        String texts = source.replaceAll("\"(\\\\.|[^\"\\\\\n])*\"", "\"\"");
        return texts.replaceAll("(?s)/\\*.*?\\*/", "").replaceAll("//[^\n]*", "");
    }

    private static List<String> found(String pattern, String code) {
        List<String> found = new ArrayList<>();
        Matcher matcher = Pattern.compile(pattern).matcher(code);
        while (matcher.find()) {
            found.add(matcher.groupCount() > 0 ? matcher.group(1) : matcher.group());
        }
        return found;
    }

    private static void none(String what, List<String> found) {
        check.compare(what, "[]", found.toString());
    }

    private static void rule1(String code, List<Class<?>> classes) {
        none("rule 1: package lines", found("(?m)^\\s*package .*", code));
        TreeSet<String> face = new TreeSet<>();
        for (Method method : FrostCalendar.class.getDeclaredMethods()) {
            if (Modifier.isPublic(method.getModifiers())) {
                face.add(method.getName());
            }
        }
        for (Class<?> one : classes) {
            for (Method method : one.getDeclaredMethods()) {
                boolean isFace = one == FrostCalendar.class && Modifier.isPublic(method.getModifiers());
                check.is("rule 1: a public one's name is borne by " + one.getSimpleName() + "." + method.getName(),
                        false, !isFace && face.contains(method.getName()));
            }
            if (one != FrostCalendar.class) {
                check.is("rule 1: seen from outside is " + one.getSimpleName(), false,
                        Modifier.isPublic(one.getModifiers()) || Modifier.isProtected(one.getModifiers()));
                check.is("rule 1: static is " + one.getSimpleName(), true, Modifier.isStatic(one.getModifiers()));
            }
        }
    }

    private static void rules2And3(List<Class<?>> classes) {
        for (Class<?> one : classes) {
            check.is("rule 2: classes inside " + one.getSimpleName(), one == FrostCalendar.class
                    ? classes.size() - 1 : 0, one.getDeclaredClasses().length);
            for (Field field : one.getDeclaredFields()) {
                allowed(one, field.getName(), field.getType(), classes);
            }
            for (Method method : one.getDeclaredMethods()) {
                if (method.getReturnType() != void.class) {
                    allowed(one, method.getName(), method.getReturnType(), classes);
                }
                for (Class<?> parameter : method.getParameterTypes()) {
                    allowed(one, method.getName(), parameter, classes);
                }
            }
        }
    }

    private static void allowed(Class<?> one, String name, Class<?> type, List<Class<?>> classes) {
        Class<?> element = type.isArray() ? type.getComponentType() : type;
        if (element.isArray()) {
            element = element.getComponentType();
            check.is("rule 3: numbers fill " + one.getSimpleName() + "." + name, true, element.isPrimitive());
        }
        boolean isAllowed = element.isPrimitive() || classes.contains(element) || LIBRARY_TYPES.contains(element);
        check.is("rule 3: " + type + " of " + one.getSimpleName() + "." + name, true, isAllowed);
    }

    private static void rule4(String source, String code) {
        none("rule 4: signs beside 1 to 127", found("[^\\x01-\\x7f]", source));
        for (String name : found("import (?:static )?([\\w.*]+);", code)) {
            check.is("rule 4: import of " + name, true, IMPORTS.contains(name));
        }
        for (String call : found("\\b((?:System|Arrays|List|Math|Integer|Long)\\.\\w+)", code)) {
            check.is("rule 4: " + call, true, STATIC_CALLS.contains(call));
        }
        none("rule 4: names with their packages", found("\\bjavax?\\.\\w+",
                code.replaceAll("import [^;]*;", "")));
        none("rules 2 and 4: lambdas, references to methods, annotations", found("->|::|@", code));
    }

    private static void rule5(List<Class<?>> classes) {
        for (Class<?> one : classes) {
            for (Field field : one.getDeclaredFields()) {
                if (Modifier.isStatic(field.getModifiers())) {
                    String what = one.getSimpleName() + "." + field.getName();
                    check.is("rule 5: final is " + what, true, Modifier.isFinal(field.getModifiers()));
                    check.is("rule 5: a number, a sign or a text is " + what, true,
                            field.getType().isPrimitive() || field.getType() == String.class);
                }
            }
        }
    }

    private static void rule6(String code) {
        none("rule 6: words", found("\\b(?:try|catch|finally|synchronized|assert|hashCode|equals|toString)\\b", code));
        for (String thrown : found("\\bthrow\\b([^;]*);", code)) {
            Matcher made = Pattern.compile(" new (\\w+)\\((?:\"\")?\\)").matcher(thrown);
            check.is("rule 6: throw" + thrown, true, made.matches() && EXCEPTIONS.contains(made.group(1)));
        }
    }

    private static void rule11(String code, List<Class<?>> classes) {
        check.is("rule 11: " + classes.size() + " classes are too many", false, classes.size() > 12);
        for (Class<?> one : classes) {
            int fields = 0;
            for (Field field : one.getDeclaredFields()) {
                fields += Modifier.isStatic(field.getModifiers()) ? 0 : 1;
            }
            check.is("rule 11: " + one.getSimpleName() + " has more than 20 fields", false, fields > 20);
            for (Method method : one.getDeclaredMethods()) {
                check.is("rule 11: " + method.getName() + " takes more than 7", false, method.getParameterCount() > 7);
            }
            for (Constructor<?> constructor : one.getDeclaredConstructors()) {
                check.is("rule 11: " + constructor + " takes more than 7", false, constructor.getParameterCount() > 7);
            }
        }
        for (String method : found("(?ms)^    ((?:public|private)[^;={]*\\)[^;={]*\\{\n.*?)^    \\}", code)) {
            check.is("rule 11: more than 60 lines has " + method.lines().findFirst().orElse(""), false,
                    method.lines().count() > 60);
        }
    }
}
