import java.io.IOException;
import java.lang.reflect.Method;
import java.net.URL;
import java.net.URLClassLoader;
import java.nio.file.Files;
import java.nio.file.Path;
import java.util.ArrayList;
import java.util.List;
import java.util.regex.Matcher;
import java.util.regex.Pattern;

/** README.md's example is compiled and run as it stands there; each call answers what stands behind it. */
final class ReadmeTest {
    private static final Pattern CALL = Pattern.compile("((?:int \\w+ = )?)(shop\\..*\\));\\s*// (-?\\w+): .+");

    static void promise01to28_exampleAnswersAsItSays() throws Exception {
        List<String> lines = exampleLines();
        List<String> said = new ArrayList<>();
        List<String> calls = new ArrayList<>();
        StringBuilder body = new StringBuilder();
        for (String line : lines) {
            Matcher call = CALL.matcher(line);
            if (!call.matches()) {
                Check.that("no call without its answer: " + line, !line.startsWith("shop."));
                body.append(line).append('\n');
                continue;
            }
            body.append(kept(call.group(1), call.group(2), calls.size()));
            calls.add(call.group(2));
            said.add(call.group(3));
        }
        Check.that("the example has calls", calls.size() > 30);
        List<String> got = answers(body.toString());
        Check.due("how many calls answered", said.size(), got.size());
        for (int n = 0; n < Math.min(said.size(), got.size()); n++) {
            Check.that(calls.get(n) + " answered " + got.get(n) + ", README says " + said.get(n),
                    said.get(n).equals(got.get(n)));
        }
    }

    private static List<String> exampleLines() throws IOException {
        List<String> inside = new ArrayList<>();
        boolean isInside = false;
        for (String line : Files.readAllLines(Path.of("README.md"))) {
            if (line.startsWith("```")) {
                isInside = line.equals("```java");
            } else if (isInside) {
                inside.add(line);
            }
        }
        return inside;
    }

    /** The call as it stands, its answer or the name of its exception kept in the list "got". */
    private static String kept(String declared, String call, int place) {
        if (!declared.isEmpty()) {
            return declared + call + ";\ngot.add(\"\" + " + declared.split(" ")[1] + ");\n";
        }
        return "try { int n" + place + " = " + call + "; got.add(\"\" + n" + place + "); }\n"
                + "catch (RuntimeException thrown) { got.add(thrown.getClass().getSimpleName()); }\n";
    }

    @SuppressWarnings("unchecked")
    private static List<String> answers(String body) throws Exception {
        Path room = Files.createTempDirectory("readme");
        Path source = room.resolve("Example.java");
        Path compiled = room.resolve("Example.class");
        try {
            Files.writeString(source, "public final class Example {\n"
                    + "public static java.util.List<String> answers() {\n"
                    + "java.util.List<String> got = new java.util.ArrayList<>();\n"
                    + body + "return got;\n}\n}\n");
            int code = new ProcessBuilder("javac", "-cp", System.getProperty("java.class.path"),
                    "-d", room.toString(), source.toString()).inheritIO().start().waitFor();
            Check.due("javac", 0, code);
            if (code != 0) {
                return new ArrayList<>();
            }
            try (URLClassLoader loader = new URLClassLoader(new URL[] {room.toUri().toURL()},
                    ReadmeTest.class.getClassLoader())) {
                Method method = loader.loadClass("Example").getMethod("answers");
                return (List<String>) method.invoke(null);
            }
        } finally {
            Files.deleteIfExists(compiled);
            Files.deleteIfExists(source);
            Files.deleteIfExists(room);
        }
    }
}
