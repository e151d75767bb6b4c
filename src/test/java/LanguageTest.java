import java.io.IOException;
import java.lang.reflect.Field;
import java.lang.reflect.Method;
import java.lang.reflect.Modifier;
import java.nio.charset.StandardCharsets;
import java.nio.file.Files;
import java.nio.file.Path;
import java.util.ArrayList;
import java.util.List;
import java.util.Set;
import java.util.regex.Matcher;
import java.util.regex.Pattern;

/** The rules of LANGUAGE.md that can be seen from the source, line by line, and from the compiled class. */
public final class LanguageTest {
    private static final Checks CHECKS = new Checks("LanguageTest");
    private static final Path SOURCE = Path.of("src", "main", "java", "BreakSetter.java");
    private static final Set<String> IMPORTS =
            Set.of("import java.util.Arrays;", "import java.util.NoSuchElementException;");
    private static final Set<String> LIBRARY = Set.of("Math.max", "Math.min", "Arrays.fill", "System.arraycopy");
    private static final String[] UNWANTED = {"->", "::", "finally", "try", "catch", "synchronized", "assert",
        "instanceof", "hashCode", "toString", "static \\{", "@", "package", "var", "float", "double",
        "volatile", "transient", "native", "strictfp"};

    public static void main(String[] args) throws IOException {
        List<String> code = withoutComments(Files.readAllLines(SOURCE, StandardCharsets.UTF_8));
        words(code);
        library(code);
        methods(code);
        List<Class<?>> classes = new ArrayList<>(List.of(BreakSetter.class.getDeclaredClasses()));
        classes.add(BreakSetter.class);
        CHECKS.isTrue("twelve classes at most", classes.size() <= 12);
        for (Class<?> one : classes) {
            members(one);
        }
        CHECKS.finish();
    }

    /** Comments and texts may hold any word. */
    private static List<String> withoutComments(List<String> lines) {
        List<String> code = new ArrayList<>();
        boolean inComment = false;
        for (String line : lines) {
            inComment = inComment || line.contains("/*");
            code.add(inComment ? "" : line.replaceAll("\"[^\"]*\"", "\"\"").replaceAll("//.*", ""));
            inComment = inComment && !line.contains("*/");
        }
        return code;
    }

    private static void words(List<String> code) {
        String all = String.join("\n", code);
        for (String word : UNWANTED) {
            String edge = Character.isLetter(word.charAt(0)) ? "\\b" : "";
            CHECKS.isTrue("no " + word, !Pattern.compile(edge + word + edge).matcher(all).find());
        }
        CHECKS.isTrue("no ending in Exact", !all.contains("Exact("));
        for (String line : code) {
            if (line.contains("throw ")) {
                CHECKS.isTrue(line, line.matches(" *throw new NoSuchElementException\\(\"\"\\);"));
            }
            if (line.startsWith("import ")) {
                CHECKS.isTrue(line, IMPORTS.contains(line));
            }
        }
    }

    private static void library(List<String> code) {
        Pattern name = Pattern.compile("\\b(Math|Arrays|System|Integer|Long|String)\\.\\w+");
        Matcher call = name.matcher(String.join("\n", code));
        while (call.find()) {
            CHECKS.isTrue(call.group(), LIBRARY.contains(call.group()));
        }
    }

    /** A method's body ends at the first closing brace that stands as far in as its first line. */
    private static void methods(List<String> code) {
        int found = 0;
        for (int at = 0; at < code.size(); at++) {
            String line = code.get(at);
            String margin = line.substring(0, line.length() - line.stripLeading().length());
            boolean isHead = line.endsWith("{") && line.contains("(") && !line.contains(" = ")
                    && !line.strip().matches("(if|for|while|switch|\\}|\\w+:|&&|\\|\\|).*");
            if (isHead) {
                int last = at + code.subList(at, code.size()).indexOf(margin + "}");
                CHECKS.isTrue("sixty lines at most: " + line.strip(), last > at && last - at < 60);
                found++;
            }
        }
        CHECKS.isTrue("methods were found (" + found + ")", found > 80);
    }

    private static void members(Class<?> one) {
        int fields = 0;
        for (Field field : one.getDeclaredFields()) {
            if (Modifier.isStatic(field.getModifiers())) {
                CHECKS.isTrue(field + " is a constant",
                        Modifier.isFinal(field.getModifiers()) && field.getType() == int.class);
            } else {
                fields++;
            }
        }
        CHECKS.isTrue(one + " has twenty fields at most", fields <= 20);
        for (Method method : one.getDeclaredMethods()) {
            CHECKS.isTrue(method + " takes seven parameters at most", method.getParameterCount() <= 7);
        }
    }
}
