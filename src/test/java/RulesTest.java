import java.io.IOException;
import java.lang.reflect.Field;
import java.lang.reflect.Method;
import java.lang.reflect.Modifier;
import java.nio.file.Files;
import java.nio.file.Path;
import java.util.ArrayList;
import java.util.Arrays;
import java.util.List;

/** What of LANGUAGE.md can be seen by reflection and in the text of the class. */
final class RulesTest {
    private static final Path SOURCE = Path.of("src", "main", "java", "ToolCrib.java");
    private static final String[] BANNED = {
        "->", "::", " instanceof ", "finally", "synchronized", "assert ", "catch", "static {", "Exact(", "double ",
        "float ", "equals", "hashCode", "toString", "package ", "\" +", "+ \"", "System.nanoTime", "Random"};

    static void rule01_nothingElseIsVisible() {
        List<String> named = new ArrayList<>();
        for (Method method : ToolCrib.class.getDeclaredMethods()) {
            boolean isSeen = Modifier.isPublic(method.getModifiers());
            Check.that(method + " is public or private", isSeen || Modifier.isPrivate(method.getModifiers()));
            if (isSeen) {
                named.add(method.getName());
            }
        }
        for (Method method : ToolCrib.class.getDeclaredMethods()) {
            if (Modifier.isPrivate(method.getModifiers())) {
                Check.that(method + " has a name of its own", !named.contains(method.getName()));
            }
        }
        for (Class<?> inside : ToolCrib.class.getDeclaredClasses()) {
            int modifiers = inside.getModifiers();
            Check.that(inside + " is hidden", !Modifier.isPublic(modifiers) && !Modifier.isProtected(modifiers));
            Check.that(inside + " is static", Modifier.isStatic(modifiers));
            for (Method method : inside.getDeclaredMethods()) {
                Check.that(method + " has a name of its own", !named.contains(method.getName()));
            }
        }
    }

    static void rule05_staticsAreConstants() {
        List<Class<?>> all = new ArrayList<>(Arrays.asList(ToolCrib.class.getDeclaredClasses()));
        all.add(ToolCrib.class);
        for (Class<?> each : all) {
            for (Field field : each.getDeclaredFields()) {
                Check.that(field + " is final", !Modifier.isStatic(field.getModifiers())
                        || Modifier.isFinal(field.getModifiers()));
            }
        }
    }

    static void rule11_classesStaySmall() {
        Check.that("twelve classes", ToolCrib.class.getDeclaredClasses().length < 12);
        List<Class<?>> all = new ArrayList<>(Arrays.asList(ToolCrib.class.getDeclaredClasses()));
        all.add(ToolCrib.class);
        for (Class<?> each : all) {
            int fields = 0;
            for (Field field : each.getDeclaredFields()) {
                fields += Modifier.isStatic(field.getModifiers()) ? 0 : 1;
            }
            Check.that(each + " has twenty fields at most", fields <= 20);
            for (Method method : each.getDeclaredMethods()) {
                Check.that(method + " has seven parameters at most", method.getParameterCount() <= 7);
            }
        }
    }

    static void rule02_nothingBannedIsWritten() throws IOException {
        for (String line : Files.readAllLines(SOURCE)) {
            for (String banned : BANNED) {
                Check.that("without " + banned + ": " + line.trim(), !line.contains(banned));
            }
            if (line.startsWith("import ")) {
                Check.that(line, line.equals("import java.util.ArrayList;") || line.equals("import java.util.Arrays;"));
            }
        }
    }

    static void rule11_methodsStayShort() throws IOException {
        List<String> lines = Files.readAllLines(SOURCE);
        int begun = -1;
        for (int n = 0; n < lines.size(); n++) {
            String line = lines.get(n);
            String indent = line.substring(0, line.length() - line.stripLeading().length());
            boolean isMember = indent.length() == 4 || indent.length() == 8;
            if (isMember && line.endsWith("{") && line.contains("(")) {
                begun = n;
            }
            if (isMember && line.trim().equals("}") && begun >= 0) {
                Check.that("sixty lines at most: " + lines.get(begun).trim(), n - begun < 60);
            }
        }
    }
}
