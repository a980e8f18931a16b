import java.io.IOException;
import java.lang.reflect.Executable;
import java.lang.reflect.Field;
import java.lang.reflect.Method;
import java.lang.reflect.Modifier;
import java.nio.file.Files;
import java.nio.file.Path;
import java.util.ArrayList;
import java.util.List;
import java.util.Set;
import java.util.regex.Matcher;
import java.util.regex.Pattern;
import java.util.stream.Stream;

/** The rules of LANGUAGE.md that can be told from the source or from the compiled class; run where README.md is. */
public final class LanguageTest {
    private static final Check CHECK = new Check();
    private static final Path MAIN = Path.of("src", "main", "java");
    private static final Set<String> IMPORTS = Set.of(
            "java.util.ArrayList", "java.util.Arrays", "java.util.List", "java.util.Iterator");
    private static final Set<String> OBJECT_METHODS = Set.of("equals", "hashCode", "toString");
    private static final String[] RULED_OUT = {
            "\\bpackage\\b", "\\bthrows?\\b", "\\btry\\b", "\\bcatch\\b", "\\bsynchronized\\b", "\\bassert\\b",
            "->", "::", "\\bstatic\\s*\\{", "\\bnew\\s+[\\w<>.]+\\s*\\([^;{]*\\)\\s*\\{", "\\bjava\\.(?!util\\.)",
            "\\bMath\\.\\w+Exact\\b", "\\bSystem\\.(?!arraycopy\\b)", "\\bThread\\b", "\\bObject\\b", "\\bvar\\b"};

    public static void main(String[] args) throws IOException {
        oneFile();
        String code = withoutComments(Files.readString(MAIN.resolve("CurveScan.java")));
        imports(code);
        for (String pattern : RULED_OUT) {
            CHECK.due("the source has " + pattern, Pattern.compile(pattern).matcher(code).find() ? 1 : 0, 0);
        }
        List<Class<?>> classes = new ArrayList<>(List.of(CurveScan.class.getDeclaredClasses()));
        classes.add(CurveScan.class);
        CHECK.due("more than twelve classes", classes.size() > 12 ? 1 : 0, 0);
        for (Class<?> each : classes) {
            fields(each);
            methods(each);
        }
        CHECK.end();
    }

    private static void oneFile() throws IOException {
        try (Stream<Path> files = Files.walk(MAIN)) {
            CHECK.due("files under " + MAIN, files.filter(Files::isRegularFile).count(), 1);
        }
    }

    private static String withoutComments(String source) {
        return source.replaceAll("(?s)/\\*.*?\\*/", " ").replaceAll("//[^\n]*", " ");
    }

    private static void imports(String code) {
        Matcher imported = Pattern.compile("\\bimport\\s+([^;]+);").matcher(code);
        while (imported.find()) {
            CHECK.due("import of " + imported.group(1), IMPORTS.contains(imported.group(1)) ? 1 : 0, 1);
        }
    }

    private static void fields(Class<?> owner) {
        int own = 0;
        for (Field field : owner.getDeclaredFields()) {
            boolean isStatic = Modifier.isStatic(field.getModifiers());
            own += isStatic ? 0 : 1;
            boolean changes = isStatic && !Modifier.isFinal(field.getModifiers());
            CHECK.due(field + " is static and not final", changes ? 1 : 0, 0);
        }
        CHECK.due(owner.getName() + " has more than twenty fields", own > 20 ? 1 : 0, 0);
    }

    private static void methods(Class<?> owner) {
        List<Executable> all = new ArrayList<>(List.of(owner.getDeclaredConstructors()));
        for (Method method : owner.getDeclaredMethods()) {
            all.add(method);
            CHECK.due(method + " is of its own", OBJECT_METHODS.contains(method.getName()) ? 1 : 0, 0);
        }
        for (Executable each : all) {
            CHECK.due(each + " has more than seven parameters", each.getParameterCount() > 7 ? 1 : 0, 0);
        }
    }
}
