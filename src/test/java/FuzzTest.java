import java.util.Arrays;
import java.util.Map;
import java.util.Random;
import java.util.TreeMap;

/** Long runs of calls, each answered by ToolCrib and by the Model; the same runs every time. */
final class FuzzTest {
    private static final int CALLS = 512;
    private static final String[] NAMES = {
        "program", "block", "map", "tool", "load", "pallet", "clamp", "prove", "takes", "plan", "night", "foresees",
        "lacks", "idle", "calibrate", "drawing", "feature", "allow", "judge", "correct", "minute", "warmth", "ofTool",
        "ofCell", "ofPallet", "ofPaper", "judgeAnew"};
    private static final int[] WEIGHTS = {
        2, 14, 3, 5, 8, 3, 3, 3, 3, 5, 8, 3, 4, 3, 5, 2, 5, 4, 9, 12, 1, 1, 6, 9, 5, 7, 2};
    private static final int[] ODD = {-1, 4, 6, 10, 12, 16, 30, 51, 100, 501, Integer.MIN_VALUE, Integer.MAX_VALUE};

    private final Random random;
    private final ToolCrib shop = new ToolCrib();
    private final Model model = new Model();
    private final StringBuilder told = new StringBuilder();
    private int odds;

    private FuzzTest(long seed) {
        random = new Random(seed);
        odds = random.nextInt(4) == 0 ? 4 : 40;
    }

    static void promise01to28_asTheModel() {
        Map<String, Integer> seen = new TreeMap<>();
        for (int seed = 0; seed < 4000; seed++) {
            FuzzTest run = new FuzzTest(seed);
            int before = Check.faults.size();
            run.go(seed % 8 == 0);
            if (Check.faults.size() > before) {
                System.out.println("seed " + seed + ":" + run.told);
                return;
            }
            run.model.count(seen);
        }
        System.out.println("the runs came to " + seen);
        for (String what : new String[] {"cause -1", "cause 0", "cause 1", "cause 2", "cause 3", "held in the midst",
            "offset", "pallet 0", "pallet 1", "pallet 2", "verdict 0", "verdict 1", "verdict 2", "worn out"}) {
            Check.that("the runs come to " + what, seen.getOrDefault(what, 0) > 200);
        }
    }

    private void go(boolean isBare) {
        if (!isBare) {
            setUp();
        }
        for (int n = 0; n < CALLS && Check.faults.isEmpty(); n++) {
            if (random.nextInt(60) == 0) {
                correctionRound();
            }
            call(NAMES[pick()]);
        }
        compareCells();
    }

    // A shop in which much is possible: programs that cut, tools for them, pallets in the queue.
    private void setUp() {
        int programs = 1 + random.nextInt(5);
        for (int program = 0; program < programs; program++) {
            answer("program");
            cuttingProgram(program);
        }
        for (int n = 0; n < 2 + random.nextInt(5); n++) {
            answer("tool", random.nextInt(3), random.nextBoolean() ? 1 + random.nextInt(30) : 400);
            answer("load", n, 1);
        }
        for (int n = 0; n < 1 + random.nextInt(6); n++) {
            answer("pallet", random.nextInt(9) + 1);
            int program = random.nextInt(programs);
            if (random.nextBoolean() && !model.isIdle(n, program)) {
                answer("plan", n, program);
            }
        }
        answer("night");
        for (int n = 0; n < 2; n++) {
            answer("drawing");
            answer("calibrate", n, random.nextInt(12));
        }
    }

    // Tools that were told the same thing thrice are corrected, and cut with their offsets then.
    private void correctionRound() {
        int drawing = random.nextInt(4);
        answer("calibrate", 0, random.nextInt(31));
        for (int n = 0; n < 3; n++) {
            answer("judge", random.nextInt(6), drawing, 0);
        }
        for (int n = 0; n < 6; n++) {
            answer("correct", n);
        }
        plan(random.nextInt(6), random.nextInt(6));
        answer("night");
    }

    private void cuttingProgram(int program) {
        boolean isTame = random.nextInt(4) > 0;
        if (isTame || random.nextBoolean()) {
            answer("block", program, 5, random.nextInt(3));
            answer("block", program, 0, 1);
        }
        int size = 2 + random.nextInt(12);
        for (int n = 0; n < size; n++) {
            int word = random.nextInt(isTame ? 8 : 10);
            if (word < 3) {
                answer("block", program, 4, random.nextInt(9));
            } else if (word < 6) {
                answer("block", program, 2 + word % 2, random.nextInt(random.nextBoolean() ? 5 : 12));
            } else if (word == 6) {
                answer("block", program, 4, 9);
                answer("block", program, 5, random.nextInt(isTame ? 3 : 4));
            } else if (word == 7) {
                answer("block", program, 6, random.nextInt(program + 1));
            } else {
                answer("block", program, word - 8, random.nextInt(2));
            }
        }
    }

    private int pick() {
        int at = random.nextInt(Arrays.stream(WEIGHTS).sum());
        int n = 0;
        while (at >= WEIGHTS[n]) {
            at -= WEIGHTS[n];
            n++;
        }
        return n;
    }

    private int upTo(int bound) {
        return random.nextInt(odds) == 0 ? ODD[random.nextInt(ODD.length)] : random.nextInt(bound);
    }

    private int from(int least, int most) {
        int n = random.nextInt(12);
        return n == 0 ? least : n == 1 ? most : least + upTo(most - least + 1);
    }

    private void call(String name) {
        switch (name) {
            case "block" -> {
                int word = upTo(7);
                int value = word == 6 ? upTo(5) : word >= 2 && word <= 4 ? from(-11, 11) : upTo(word == 5 ? 4 : 2);
                answer(name, upTo(6), word, random.nextInt(4) == 0 ? value : Math.abs(value % 10));
            }
            case "map" -> answer(name, upTo(12), random.nextBoolean() ? from(-50, 50) : from(-4, 4));
            case "tool" -> answer(name, upTo(4), random.nextBoolean() ? from(1, 500) : from(1, 20));
            case "load" -> answer(name, upTo(10), random.nextInt(4) == 0 ? 0 : 1);
            case "pallet" -> answer(name, from(1, 9));
            case "clamp" -> answer(name, upTo(6), upTo(12), upTo(12), from(1, 9));
            case "prove", "takes" -> answer(name, upTo(6), upTo(6));
            case "plan" -> plan(upTo(6), upTo(6));
            case "lacks" -> answer(name, upTo(4));
            case "idle" -> answer(name, random.nextBoolean() ? from(1, 500) : from(1, 60));
            case "calibrate" -> answer(name, upTo(4), from(0, 30));
            case "feature" -> {
                int[] cut = random.nextInt(5) == 0 ? null : model.someCut(random);
                if (cut == null) {
                    answer(name, upTo(4), upTo(6), upTo(6), from(0, 9), from(1, 99));
                } else {
                    answer(name, upTo(4), cut[0], cut[1], cut[2], 1 + random.nextInt(random.nextBoolean() ? 30 : 99));
                }
            }
            case "allow" -> answer(name, upTo(3), upTo(4), from(0, 99), from(1, 9));
            case "judge" -> answer(name, upTo(6), upTo(3), upTo(4));
            case "correct" -> answer(name, upTo(random.nextBoolean() ? 3 : 8));
            case "ofTool" -> answer(name, upTo(8), upTo(6));
            case "ofCell" -> answer(name, upTo(6), upTo(7), upTo(7), upTo(5));
            case "ofPallet" -> answer(name, upTo(6), upTo(4));
            case "ofPaper" -> answer(name, upTo(12), upTo(11));
            case "judgeAnew" -> answer(name, upTo(12));
            default -> answer(name);
        }
    }

    // A pallet is planned but once, so most of them are kept for programs that cut.
    private void plan(int pallet, int program) {
        if (random.nextInt(8) == 0 || !model.isIdle(pallet, program)) {
            answer("plan", pallet, program);
        }
    }

    private void compareCells() {
        for (int pallet = 0; pallet < 6; pallet++) {
            for (int what = 0; what < 5; what++) {
                for (int cell = 0; cell < 144; cell++) {
                    answer("ofCell", pallet, cell % 12, cell / 12, what);
                }
                answer("ofPallet", pallet, what);
            }
        }
        for (int n = 0; n < 31; n++) {
            for (int what = 0; what < 12; what++) {
                answer("ofPaper", n, what);
                answer("ofTool", n, what);
            }
            answer("judgeAnew", n);
        }
    }

    private void answer(String name, int... args) {
        int before = told.length();
        told.append(' ').append(name).append(Arrays.toString(args));
        String call = told.substring(before);
        Object want;
        Object got;
        try {
            want = ofModel(name, args);
        } catch (Model.Refusal refusal) {
            want = refusal.like;
        }
        try {
            got = ofShop(name, args);
        } catch (RuntimeException thrown) {
            got = Check.isThrownByTheShop(thrown) ? thrown.getClass() : thrown;
        }
        Check.checks++;
        if (!want.equals(got)) {
            Check.faults.add(call + " answered " + got + ", due is " + want);
        }
    }

    private int ofShop(String name, int[] a) {
        return switch (name) {
            case "program" -> shop.program();
            case "block" -> shop.block(a[0], a[1], a[2]);
            case "map" -> shop.map(a[0], a[1]);
            case "tool" -> shop.tool(a[0], a[1]);
            case "load" -> shop.load(a[0], a[1] == 1);
            case "pallet" -> shop.pallet(a[0]);
            case "clamp" -> shop.clamp(a[0], a[1], a[2], a[3]);
            case "prove" -> shop.prove(a[0], a[1]);
            case "takes" -> shop.takes(a[0], a[1]);
            case "plan" -> shop.plan(a[0], a[1]);
            case "night" -> shop.night();
            case "foresees" -> shop.foresees();
            case "lacks" -> shop.lacks(a[0]);
            case "idle" -> shop.idle(a[0]);
            case "calibrate" -> shop.calibrate(a[0], a[1]);
            case "drawing" -> shop.drawing();
            case "feature" -> shop.feature(a[0], a[1], a[2], a[3], a[4]);
            case "allow" -> shop.allow(a[0], a[1], a[2], a[3]);
            case "judge" -> shop.judge(a[0], a[1], a[2]);
            case "correct" -> shop.correct(a[0]);
            case "minute" -> shop.minute();
            case "warmth" -> shop.warmth();
            case "ofTool" -> shop.ofTool(a[0], a[1]);
            case "ofCell" -> shop.ofCell(a[0], a[1], a[2], a[3]);
            case "ofPallet" -> shop.ofPallet(a[0], a[1]);
            case "ofPaper" -> shop.ofPaper(a[0], a[1]);
            default -> shop.judgeAnew(a[0]);
        };
    }

    private int ofModel(String name, int[] a) {
        return switch (name) {
            case "program" -> model.program();
            case "block" -> model.block(a[0], a[1], a[2]);
            case "map" -> model.map(a[0], a[1]);
            case "tool" -> model.tool(a[0], a[1]);
            case "load" -> model.load(a[0], a[1] == 1);
            case "pallet" -> model.pallet(a[0]);
            case "clamp" -> model.clamp(a[0], a[1], a[2], a[3]);
            case "prove" -> model.prove(a[0], a[1]);
            case "takes" -> model.takes(a[0], a[1]);
            case "plan" -> model.plan(a[0], a[1]);
            case "night" -> model.night();
            case "foresees" -> model.foresees();
            case "lacks" -> model.lacks(a[0]);
            case "idle" -> model.idle(a[0]);
            case "calibrate" -> model.calibrate(a[0], a[1]);
            case "drawing" -> model.drawing();
            case "feature" -> model.feature(a[0], a[1], a[2], a[3], a[4]);
            case "allow" -> model.allow(a[0], a[1], a[2], a[3]);
            case "judge" -> model.judge(a[0], a[1], a[2]);
            case "correct" -> model.correct(a[0]);
            case "minute" -> model.minute();
            case "warmth" -> model.warmth();
            case "ofTool" -> model.ofTool(a[0], a[1]);
            case "ofCell" -> model.ofCell(a[0], a[1], a[2], a[3]);
            case "ofPallet" -> model.ofPallet(a[0], a[1]);
            case "ofPaper" -> model.ofPaper(a[0], a[1]);
            default -> model.judgeAnew(a[0]);
        };
    }
}
