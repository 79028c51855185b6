import java.util.ArrayList;
import java.util.List;

/** What a test says of the calls it makes; what is not as due is kept until the test ends. */
final class Check {
    interface Call {
        int go();
    }

    static final Class<IndexOutOfBoundsException> INDEX = IndexOutOfBoundsException.class;
    static final Class<IllegalArgumentException> ARGUMENT = IllegalArgumentException.class;
    static final Class<IllegalStateException> STATE = IllegalStateException.class;

    static final List<String> faults = new ArrayList<>();
    static int checks;

    private Check() {
    }

    static void due(String what, int want, int got) {
        checks++;
        if (want != got) {
            faults.add(what + " answered " + got + ", due is " + want);
        }
    }

    static void that(String what, boolean holds) {
        checks++;
        if (!holds) {
            faults.add(what + " does not hold");
        }
    }

    /** Whether a throw statement of the class threw it, and not the library or the machine below it. */
    static boolean isThrownByTheShop(RuntimeException thrown) {
        StackTraceElement[] trace = thrown.getStackTrace();
        return trace.length > 0 && trace[0].getClassName().split("\\$")[0].equals("ToolCrib");
    }

    /** The call throws exactly this, and the shop answers every question afterwards as before. */
    static void refused(ToolCrib shop, Class<? extends RuntimeException> want, String what, Call call) {
        checks++;
        List<Integer> before = Snapshot.of(shop);
        try {
            faults.add(what + " answered " + call.go() + ", due is " + want.getSimpleName());
        } catch (RuntimeException thrown) {
            if (thrown.getClass() != want) {
                faults.add(what + " threw " + thrown + ", due is " + want.getSimpleName());
            }
            if (!isThrownByTheShop(thrown)) {
                faults.add(what + " was not thrown by a statement of the class");
            }
        }
        if (!before.equals(Snapshot.of(shop))) {
            faults.add(what + " threw, and changed something");
        }
    }
}
