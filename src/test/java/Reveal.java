import java.util.ArrayList;
import java.util.List;

/** All that a shop holds, its questions' answers and what only shows when it goes on: the shop is spent by it. */
final class Reveal {
    interface Call {
        int go();
    }

    private final ToolCrib shop;
    private final List<String> answers = new ArrayList<>();

    private Reveal(ToolCrib shop) {
        this.shop = shop;
    }

    static List<String> of(ToolCrib shop) {
        Reveal reveal = new Reveal(shop);
        reveal.questions();
        reveal.papers();
        reveal.questions();
        reveal.tools();
        reveal.nights();
        reveal.programs();
        reveal.whatCanStillCome();
        reveal.questions();
        return reveal.answers;
    }

    private void questions() {
        answers.add(Snapshot.of(shop).toString());
    }

    private String tell(String what, Call call) {
        String answer;
        try {
            answer = what + " " + call.go();
        } catch (IndexOutOfBoundsException | IllegalArgumentException | IllegalStateException thrown) {
            answer = what + " " + thrown.getClass().getSimpleName();
        }
        answers.add(answer);
        return answer;
    }

    // The gauges, the features and what is allowed for them show on papers alone.
    private void papers() {
        for (int gauge = 0; gauge < 4; gauge++) {
            for (int drawing = 0; drawing < 4; drawing++) {
                for (int pallet = 0; pallet < 6; pallet++) {
                    int[] call = {pallet, drawing, gauge};
                    tell("judge", () -> shop.judge(call[0], call[1], call[2]));
                }
            }
        }
        for (int n = 0; n < 24; n++) {
            int[] call = {n / 6, n % 6};
            tell("allow", () -> shop.allow(call[0], call[1], 0, 1));
        }
    }

    private void tools() {
        for (int n = 0; n < 17; n++) {
            int tool = n;
            tell("correct", () -> shop.correct(tool));
            tell("load", () -> shop.load(tool, tool % 2 == 0));
        }
    }

    private void nights() {
        tell("night", shop::night);
        for (int n = 0; n < 6; n++) {
            int pallet = n;
            tell("clamp", () -> shop.clamp(pallet, 7, 7, 1));
            tell("plan", () -> shop.plan(pallet, 0));
        }
        tell("night", shop::night);
        for (int n = 0; n < 12; n++) {
            int x = n;
            tell("map", () -> shop.map(x, 0));
        }
    }

    private void programs() {
        for (int n = 0; n < 6; n++) {
            int program = n;
            for (int size = 0; size <= 30; size++) {
                if (!tell("block", () -> shop.block(program, ToolCrib.MODE, 1)).matches("block \\d+")) {
                    break;
                }
            }
        }
    }

    private void whatCanStillCome() {
        for (int n = 0; n < 17; n++) {
            tell("program", shop::program);
            tell("tool", () -> shop.tool(1, 1));
            tell("pallet", () -> shop.pallet(1));
            tell("drawing", shop::drawing);
            int drawing = n % 4;
            tell("feature", () -> shop.feature(drawing, 1, 1, 1, 1));
        }
        tell("idle", () -> shop.idle(1));
    }
}
