import java.lang.reflect.Method;
import java.util.Arrays;
import java.util.Comparator;

/** Runs every static method of a test class whose name begins with "promise" or "rule". */
final class Run {
    private Run() {
    }

    public static void main(String[] args) throws Exception {
        int passed = 0;
        int failed = 0;
        Method[] methods = Class.forName(args[0]).getDeclaredMethods();
        Arrays.sort(methods, Comparator.comparing(Method::getName));
        for (Method method : methods) {
            if (!method.getName().startsWith("promise") && !method.getName().startsWith("rule")) {
                continue;
            }
            if (passes(args[0], method)) {
                passed++;
            } else {
                failed++;
            }
        }
        System.out.println(args[0] + ": " + passed + " tests passed, " + failed + " failed, "
                + Check.checks + " checks");
        System.exit(failed > 0 || passed == 0 ? 1 : 0);
    }

    private static boolean passes(String name, Method method) throws Exception {
        Check.faults.clear();
        try {
            method.setAccessible(true);
            method.invoke(null);
        } catch (java.lang.reflect.InvocationTargetException thrown) {
            Check.faults.add("threw " + thrown.getCause());
            thrown.getCause().printStackTrace(System.out);
        }
        for (int n = 0; n < Math.min(10, Check.faults.size()); n++) {
            System.out.println(name + "." + method.getName() + ": " + Check.faults.get(n));
        }
        return Check.faults.isEmpty();
    }
}
