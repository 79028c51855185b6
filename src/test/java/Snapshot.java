import java.util.ArrayList;
import java.util.List;

/** The answers to all questions of a shop. */
final class Snapshot {
    private static final int REFUSED = Integer.MIN_VALUE;

    private Snapshot() {
    }

    static List<Integer> of(ToolCrib shop) {
        List<Integer> answers = new ArrayList<>();
        answers.add(shop.minute());
        answers.add(shop.warmth());
        answers.add(shop.foresees());
        for (int kind = 0; kind < 4; kind++) {
            answers.add(shop.lacks(kind));
        }
        for (int tool = 0; isThere(shop, tool, Snapshot::tool); tool++) {
            for (int what = 0; what <= 5; what++) {
                answers.add(shop.ofTool(tool, what));
            }
        }
        for (int paper = 0; isThere(shop, paper, Snapshot::paper); paper++) {
            for (int what = 0; what <= 10; what++) {
                answers.add(shop.ofPaper(paper, what));
            }
            answers.add(shop.judgeAnew(paper));
        }
        for (int pallet = 0; isThere(shop, pallet, Snapshot::pallet); pallet++) {
            ofPallet(shop, pallet, answers);
        }
        return answers;
    }

    private static void ofPallet(ToolCrib shop, int pallet, List<Integer> answers) {
        for (int what = 0; what <= 3; what++) {
            answers.add(shop.ofPallet(pallet, what));
        }
        for (int cell = 0; cell < 144; cell++) {
            for (int what = 0; what <= 4; what++) {
                answers.add(shop.ofCell(pallet, cell % 12, cell / 12, what));
            }
        }
        for (int program = 0; program < 6; program++) {
            answers.add(proof(shop, pallet, program));
            answers.add(minutes(shop, pallet, program));
        }
    }

    private interface Question {
        int ask(ToolCrib shop, int number);
    }

    private static boolean isThere(ToolCrib shop, int number, Question question) {
        try {
            question.ask(shop, number);
            return true;
        } catch (IndexOutOfBoundsException none) {
            return false;
        }
    }

    private static int tool(ToolCrib shop, int number) {
        return shop.ofTool(number, 0);
    }

    private static int paper(ToolCrib shop, int number) {
        return shop.ofPaper(number, 0);
    }

    private static int pallet(ToolCrib shop, int number) {
        return shop.ofPallet(number, 0);
    }

    private static int proof(ToolCrib shop, int pallet, int program) {
        try {
            return shop.prove(pallet, program);
        } catch (IndexOutOfBoundsException none) {
            return REFUSED;
        }
    }

    private static int minutes(ToolCrib shop, int pallet, int program) {
        try {
            return shop.takes(pallet, program);
        } catch (IndexOutOfBoundsException none) {
            return REFUSED;
        }
    }
}
