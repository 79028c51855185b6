import java.lang.reflect.Constructor;
import java.lang.reflect.Field;
import java.lang.reflect.Method;
import java.lang.reflect.Modifier;
import java.util.ArrayList;
import java.util.Arrays;
import java.util.List;

/** Promise 1: the document's face, and the new object. */
final class FaceTest {
    private static final String E = "IndexOutOfBoundsException", A = "IllegalArgumentException",
            S = "IllegalStateException";
    private static final String[] FACE = {
        "program() " + S, "block(int, int, int) " + E + " " + A + " " + S, "map(int, int) " + A,
        "tool(int, int) " + A + " " + S, "load(int, boolean) " + E + " " + S, "pallet(int) " + A + " " + S,
        "clamp(int, int, int, int) " + E + " " + A + " " + S, "prove(int, int) " + E, "takes(int, int) " + E,
        "plan(int, int) " + E + " " + S, "night()", "foresees()", "lacks(int) " + A, "idle(int) " + A + " " + S,
        "calibrate(int, int) " + E + " " + A, "drawing() " + S,
        "feature(int, int, int, int, int) " + E + " " + A + " " + S, "allow(int, int, int, int) " + E + " " + A,
        "judge(int, int, int) " + E + " " + S, "correct(int) " + E, "minute()", "warmth()",
        "ofTool(int, int) " + E + " " + A, "ofCell(int, int, int, int) " + E + " " + A,
        "ofPallet(int, int) " + E + " " + A, "ofPaper(int, int) " + E + " " + A, "judgeAnew(int) " + E};
    private static final String[] CONSTANTS = {
        "NONE -1", "MODE 0", "MEASURE 1", "X 2", "Y 3", "Z 4", "KIND 5", "CALL 6", "TRAVEL 1", "WRONG 2", "CRASH 3",
        "ENDLESS 4", "RAW 0", "PLANNED 1", "DONE 2", "ACCEPTED 0", "DOUBTFUL 1", "REJECTED 2"};

    static void promise01_newObjectIsEmpty() {
        ToolCrib shop = new ToolCrib();
        Check.due("minute", 0, shop.minute());
        Check.due("warmth", 0, shop.warmth());
        Check.due("foresees", 0, shop.foresees());
        Check.due("night", 0, shop.night());
        for (int kind = 0; kind < 4; kind++) {
            Check.due("lacks", 0, shop.lacks(kind));
        }
        for (int number = -1; number <= 1; number++) {
            int n = number;
            Check.refused(shop, Check.INDEX, "ofTool " + n, () -> shop.ofTool(n, 0));
            Check.refused(shop, Check.INDEX, "ofPallet " + n, () -> shop.ofPallet(n, 0));
            Check.refused(shop, Check.INDEX, "ofCell " + n, () -> shop.ofCell(n, 0, 0, 0));
            Check.refused(shop, Check.INDEX, "ofPaper " + n, () -> shop.ofPaper(n, 0));
            Check.refused(shop, Check.INDEX, "judgeAnew " + n, () -> shop.judgeAnew(n));
            Check.refused(shop, Check.INDEX, "block " + n, () -> shop.block(n, 0, 0));
            Check.refused(shop, Check.INDEX, "feature " + n, () -> shop.feature(n, 0, 0, 1, 1));
        }
        for (int x = 0; x < 12; x++) {
            Check.due("map at first", 0, shop.map(x, 0));
        }
    }

    static void promise01_objectsShareNothing() {
        ToolCrib one = new ToolCrib();
        ToolCrib other = new ToolCrib();
        one.program();
        one.tool(0, 5);
        one.pallet(3);
        one.drawing();
        one.map(3, 7);
        one.idle(5);
        Check.due("program", 0, other.program());
        Check.due("tool", 0, other.tool(0, 1));
        Check.due("pallet", 0, other.pallet(1));
        Check.due("drawing", 0, other.drawing());
        Check.due("map", 0, other.map(3, 1));
        Check.due("minute", 0, other.minute());
    }

    static void promise01_faceIsTheDocuments() {
        Class<?> face = ToolCrib.class;
        Check.due("modifiers", Modifier.PUBLIC | Modifier.FINAL, face.getModifiers());
        Check.due("constructors", 1, face.getDeclaredConstructors().length);
        Constructor<?> made = face.getDeclaredConstructors()[0];
        Check.that("the constructor", Modifier.isPublic(made.getModifiers()) && made.getParameterCount() == 0);
        List<String> found = new ArrayList<>();
        for (Method method : face.getDeclaredMethods()) {
            if (Modifier.isPublic(method.getModifiers())) {
                Check.due(method.getName() + " modifiers", Modifier.PUBLIC, method.getModifiers());
                Check.that(method.getName() + " answers int", method.getReturnType() == int.class);
                found.add(line(method));
            }
        }
        same("methods", Arrays.asList(FACE), found);
    }

    static void promise01_constants() throws IllegalAccessException {
        List<String> found = new ArrayList<>();
        for (Field field : ToolCrib.class.getDeclaredFields()) {
            if (Modifier.isPublic(field.getModifiers())) {
                Check.due(field.getName(), Modifier.PUBLIC | Modifier.STATIC | Modifier.FINAL, field.getModifiers());
                found.add(field.getName() + " " + field.getInt(null));
            }
        }
        same("constants", Arrays.asList(CONSTANTS), found);
    }

    private static String line(Method method) {
        StringBuilder line = new StringBuilder(method.getName()).append('(');
        for (int n = 0; n < method.getParameterCount(); n++) {
            line.append(n == 0 ? "" : ", ").append(method.getParameterTypes()[n].getSimpleName());
        }
        line.append(')');
        for (Class<?> thrown : method.getExceptionTypes()) {
            line.append(' ').append(thrown.getSimpleName());
        }
        return line.toString();
    }

    private static void same(String what, List<String> want, List<String> got) {
        List<String> missing = new ArrayList<>(want);
        missing.removeAll(got);
        List<String> extra = new ArrayList<>(got);
        extra.removeAll(want);
        Check.that(what + ", missing " + missing + ", beyond " + extra, missing.isEmpty() && extra.isEmpty());
    }
}
