import java.io.IOException;
import java.lang.reflect.Field;
import java.lang.reflect.Method;
import java.lang.reflect.Modifier;
import java.nio.file.Files;
import java.nio.file.Path;
import java.util.Set;
import java.util.regex.Matcher;
import java.util.regex.Pattern;

/** Those rules of LANGUAGE.md that can be read off the source or the class. */
public final class LanguageTest {
    private static final Path SOURCE = Path.of("src/main/java/TwoColours.java");
    private static final Pattern COMMENT = Pattern.compile("/\\*.*?\\*/|//[^\n]*", Pattern.DOTALL);
    private static final Pattern FORBIDDEN = Pattern.compile(
            "\\b(throw|throws|try|catch|synchronized|assert|package|var|System\\.out|\\w+Exact)\\b|->|::");
    private static final Pattern IMPORT = Pattern.compile("\\bimport\\s+([^;]+);");
    private static final Pattern LIBRARY = Pattern.compile("\\b(Arrays|Math|Integer|Long|System)\\.(\\w+)");
    private static final Set<String> IMPORTS = Set.of("java.util.Arrays", "java.util.ArrayList", "java.util.List");
    private static final Set<String> CALLS = Set.of("Arrays.fill", "Arrays.copyOf", "Arrays.copyOfRange",
            "Math.max", "Math.min", "Math.abs", "Math.floorDiv", "Math.floorMod", "Integer.bitCount",
            "Integer.compare", "Long.compare", "System.arraycopy");
    private static final int MOST_FIELDS = 20, MOST_PARAMETERS = 7, MOST_LINES = 60;

    private static final Checks checks = new Checks();

    public static void main(String[] args) throws IOException {
        String source = COMMENT.matcher(Files.readString(SOURCE)).replaceAll("");
        noForbiddenWord(source);
        onlyTheListedLibrary(source);
        methodsAreShort(source);
        fewFieldsAndParameters();
        checks.end();
    }

    private static void noForbiddenWord(String source) {
        Matcher found = FORBIDDEN.matcher(source);
        while (found.find()) {
            checks.report("the source has " + found.group());
        }
    }

    private static void onlyTheListedLibrary(String source) {
        Matcher imports = IMPORT.matcher(source);
        while (imports.find()) {
            if (!IMPORTS.contains(imports.group(1))) {
                checks.report("the source imports " + imports.group(1));
            }
        }
        Matcher calls = LIBRARY.matcher(imports.replaceAll(""));
        while (calls.find()) {
            if (!CALLS.contains(calls.group())) {
                checks.report("the source uses " + calls.group());
            }
        }
    }

    /** By the source's own form: a method of the class begins and ends at an indent of four. */
    private static void methodsAreShort(String source) {
        String[] lines = source.split("\n");
        int begun = -1;
        int methods = 0;
        for (int line = 0; line < lines.length; line++) {
            if (lines[line].matches(" {4}(public|private) .*\\(.*")) {
                begun = line;
            } else if (lines[line].equals("    }") && begun >= 0) {
                methods++;
                if (line - begun + 1 > MOST_LINES) {
                    checks.report("a method is too long: " + lines[begun].strip());
                }
                begun = -1;
            }
        }
        int made = TwoColours.class.getDeclaredMethods().length + 1;
        checks.due("methods and constructor found in the source", methods, made);
    }

    private static void fewFieldsAndParameters() {
        int fields = 0;
        for (Field field : TwoColours.class.getDeclaredFields()) {
            fields += Modifier.isStatic(field.getModifiers()) ? 0 : 1;
        }
        if (fields > MOST_FIELDS) {
            checks.report("the class has " + fields + " fields");
        }
        for (Method method : TwoColours.class.getDeclaredMethods()) {
            if (method.getParameterCount() > MOST_PARAMETERS) {
                checks.report("too many parameters: " + method.getName());
            }
        }
    }
}
