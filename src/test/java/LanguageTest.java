import java.io.IOException;
import java.lang.reflect.Field;
import java.lang.reflect.Method;
import java.lang.reflect.Modifier;
import java.nio.file.Files;
import java.nio.file.Path;
import java.util.ArrayList;
import java.util.Arrays;
import java.util.List;
import java.util.regex.Matcher;
import java.util.regex.Pattern;

/** What of LANGUAGE.md can be seen from the class and from its source, by the rules' numbers. */
public final class LanguageTest {
    private static final Check check = new Check();
    private static final List<String> IMPORTS = List.of("java.util.ArrayList", "java.util.Arrays",
            "java.util.Iterator", "java.util.List", "java.util.NoSuchElementException");
    private static final List<String> THROWN = List.of("IllegalStateException", "IllegalArgumentException",
            "IndexOutOfBoundsException", "ArithmeticException", "UnsupportedOperationException",
            "NoSuchElementException", "RuntimeException");
    private static final List<Class<?>> CONSTANTS = List.of(int.class, long.class, boolean.class, char.class,
            String.class, int[].class, long[].class, char[].class, byte[].class);
    private static final List<String> NEVER = List.of("->", "::", "\\bfinally\\b", "\\bsynchronized\\b",
            "\\bassert\\b", "\\bcatch\\b", "\\bpackage\\b", "\\bnative\\b", "Exact\\(", "\\bSystem\\.(?!arraycopy)",
            "\\bThread\\b", "\\bRandom\\b", "static \\{");

    public static void main(String[] args) throws IOException {
        String source = withoutCommentsAndTexts(Files.readString(Path.of("src/main/java/TextNet.java")));
        imports(source);
        throwing(source);
        wordsThatAreRuledOut(source);
        List<Class<?>> classes = classes();
        check.due("rule 11: the file has at most 12 classes", classes.size() <= 12, true);
        for (Class<?> one : classes) {
            fields(one);
            methods(one);
        }
        check.end();
    }

    private static String withoutCommentsAndTexts(String source) {
        return source.replaceAll("(?s)/\\*.*?\\*/", "").replaceAll("\"[^\"\n]*\"", "\"\"").replaceAll("//[^\n]*", "");
    }

    private static List<String> found(String pattern, String source) {
        List<String> all = new ArrayList<>();
        Matcher matcher = Pattern.compile(pattern).matcher(source);
        while (matcher.find()) {
            all.add(matcher.group(1));
        }
        return all;
    }

    private static void imports(String source) {
        for (String name : found("import ([^;]*);", source)) {
            check.due("rule 4: import of " + name, IMPORTS.contains(name), true);
        }
    }

    private static void throwing(String source) {
        List<String> named = found("throw new (\\w+)\\((?:\"\")?\\);", source);
        check.due("rule 6: throws with a written text or none", named.size(), found("(\\bthrow\\b)", source).size());
        for (String name : named) {
            check.due("rule 6: a throw of " + name, THROWN.contains(name), true);
        }
    }

    /** A catch is not ruled out by LANGUAGE.md, but no call of this class needs one. */
    private static void wordsThatAreRuledOut(String source) {
        for (String word : NEVER) {
            check.due("places of " + word, found("(" + word + ")", source).size(), 0);
        }
    }

    private static List<Class<?>> classes() {
        List<Class<?>> all = new ArrayList<>();
        all.add(TextNet.class);
        for (Class<?> inside : TextNet.class.getDeclaredClasses()) {
            int modifiers = inside.getModifiers();
            check.due("rule 1: " + inside + " is static", Modifier.isStatic(modifiers), true);
            check.due("rule 1: " + inside + " is not to be seen",
                    Modifier.isPublic(modifiers) || Modifier.isProtected(modifiers), false);
            all.add(inside);
        }
        return all;
    }

    private static void fields(Class<?> one) {
        int own = 0;
        for (Field field : one.getDeclaredFields()) {
            if (!Modifier.isStatic(field.getModifiers())) {
                own++;
                continue;
            }
            check.due("rule 5: " + field + " is final", Modifier.isFinal(field.getModifiers()), true);
            check.due("rule 5: " + field + " is a constant", CONSTANTS.contains(field.getType()), true);
        }
        check.due("rule 11: " + one + " has at most 20 fields", own <= 20, true);
    }

    private static void methods(Class<?> one) {
        for (Method method : one.getDeclaredMethods()) {
            check.due("rule 11: " + method + " has at most 7 parameters", method.getParameterCount() <= 7, true);
            boolean isOwn = Arrays.asList("equals", "hashCode", "toString").contains(method.getName());
            check.due("rule 6: " + method + " is one of the machine's names", isOwn, false);
        }
    }
}
