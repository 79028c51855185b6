import java.util.ArrayDeque;
import java.util.ArrayList;
import java.util.Arrays;
import java.util.Deque;
import java.util.HashMap;
import java.util.List;
import java.util.Map;
import java.util.TreeMap;

/**
 * The document written a second time, in another way: a program is unrolled whole into its steps, a pallet keeps the
 * steps still to go, and what is foreseen is a night of a copy. Answers as ToolCrib; a refusal is the exception's class.
 */
final class Model {
    record Block(int word, int value) {
    }

    record Step(int x, int y, int z, boolean isCutting, int kind) {
        int cell() {
            return 100 * x + y;
        }
    }

    record Way(List<Step> steps, int wrong) {
    }

    record Cut(int size, int tool, int cause) {
    }

    record Paper(int pallet, int drawing, int verdict, int minute, int doubt, List<Integer> aways) {
    }

    static final class Tool {
        int kind, life, used, offset;
        List<Integer> told = new ArrayList<>();

        Tool copy() {
            Tool copy = new Tool();
            copy.kind = kind;
            copy.life = life;
            copy.used = used;
            copy.offset = offset;
            copy.told = new ArrayList<>(told);
            return copy;
        }
    }

    static final class Pallet {
        int stock, state, gone, judged = -1;
        Map<Integer, Integer> heights = new HashMap<>(), clamps = new HashMap<>();
        Map<Integer, Cut> cuts = new HashMap<>();
        Deque<Step> toGo = new ArrayDeque<>();

        int height(int cell) {
            return heights.getOrDefault(cell, stock);
        }

        Pallet copy() {
            Pallet copy = new Pallet();
            copy.stock = stock;
            copy.state = state;
            copy.gone = gone;
            copy.judged = judged;
            copy.heights = new HashMap<>(heights);
            copy.clamps = new HashMap<>(clamps);
            copy.cuts = new HashMap<>(cuts);
            copy.toGo = new ArrayDeque<>(toGo);
            return copy;
        }
    }

    static final class Feature {
        int x, y, height, tolerance;
        Deque<Integer> allowed = new ArrayDeque<>();
    }

    /** A refusal, known by the class that ToolCrib throws. */
    static final class Refusal extends RuntimeException {
        private static final long serialVersionUID = 1;
        final transient Class<? extends RuntimeException> like;

        Refusal(Class<? extends RuntimeException> like) {
            super(null, null, false, false);
            this.like = like;
        }
    }

    private final List<List<Block>> programs = new ArrayList<>();
    private final int[] map = new int[12];
    private final List<Tool> tools = new ArrayList<>();
    private final List<Integer> magazine = new ArrayList<>();
    private final List<Pallet> pallets = new ArrayList<>();
    private final List<Integer> queue = new ArrayList<>();
    private final int[][] gauges = new int[4][];
    private final List<List<Feature>> drawings = new ArrayList<>();
    private final List<Paper> papers = new ArrayList<>();
    private int minute, warmth;

    private static void index(boolean holds) {
        if (!holds) {
            throw new Refusal(IndexOutOfBoundsException.class);
        }
    }

    private static void argument(boolean holds) {
        if (!holds) {
            throw new Refusal(IllegalArgumentException.class);
        }
    }

    private static void state(boolean holds) {
        if (!holds) {
            throw new Refusal(IllegalStateException.class);
        }
    }

    private static boolean in(int n, int low, int high) {
        return low <= n && n <= high;
    }

    private static void one(int n, List<?> of) {
        index(in(n, 0, of.size() - 1));
    }

    private static void cell(int x, int y) {
        index(in(x, 0, 11) && in(y, 0, 11));
    }

    int program() {
        state(programs.size() != 6);
        programs.add(new ArrayList<>());
        return programs.size() - 1;
    }

    int block(int program, int word, int value) {
        one(program, programs);
        argument(in(word, 0, 6));
        int[] low = {0, 0, -11, -11, -11, 0, 0};
        int[] high = {1, 1, 11, 11, 11, 3, program - 1};
        argument(in(value, low[word], high[word]));
        state(programs.get(program).size() != 30);
        state(pallets.stream().noneMatch(p -> p.state == 1));
        programs.get(program).add(new Block(word, value));
        return programs.get(program).size();
    }

    int map(int x, int error) {
        argument(in(x, 0, 11) && in(error, -50, 50));
        int was = map[x];
        map[x] = error;
        return was;
    }

    int tool(int kind, int life) {
        argument(in(kind, 0, 3) && in(life, 1, 500));
        state(tools.size() != 16);
        Tool tool = new Tool();
        tool.kind = kind;
        tool.life = life;
        tools.add(tool);
        return tools.size() - 1;
    }

    int load(int tool, boolean isIn) {
        one(tool, tools);
        List<Integer> others = new ArrayList<>(magazine);
        others.remove(Integer.valueOf(tool));
        state(!isIn || others.size() < 6);
        magazine.clear();
        magazine.addAll(others);
        if (isIn) {
            magazine.add(tool);
        }
        return magazine.size();
    }

    int pallet(int stock) {
        argument(in(stock, 1, 9));
        state(pallets.size() != 6);
        Pallet pallet = new Pallet();
        pallet.stock = stock;
        pallets.add(pallet);
        return pallets.size() - 1;
    }

    int clamp(int pallet, int x, int y, int height) {
        one(pallet, pallets);
        cell(x, y);
        argument(in(height, 1, 9));
        Pallet p = pallets.get(pallet);
        state(p.state == 0 && !p.clamps.containsKey(100 * x + y) && p.clamps.size() != 3);
        p.clamps.put(100 * x + y, height);
        return p.clamps.size();
    }

    /** The blocks in the order in which they are done, the CALLs themselves with them, up to 601. */
    private void unroll(int program, List<Block> into) {
        for (Block block : programs.get(program)) {
            if (into.size() > 600) {
                return;
            }
            into.add(block);
            if (block.word == 6) {
                unroll(block.value, into);
            }
        }
    }

    /** All steps, as if the stock were air; what is wrong then, but for crashes. */
    private Way way(int program) {
        List<Block> blocks = new ArrayList<>();
        unroll(program, blocks);
        List<Step> steps = new ArrayList<>();
        int[] place = {0, 0, 9};
        int[] top = {11, 11, 9};
        boolean isCutting = false;
        boolean isFromSpindle = false;
        int kind = -1;
        for (int n = 0; n < blocks.size(); n++) {
            if (n == 600) {
                return new Way(steps, 4);
            }
            int word = blocks.get(n).word;
            int value = blocks.get(n).value;
            if (word == 0) {
                isCutting = value == 1;
            } else if (word == 1) {
                isFromSpindle = value == 1;
            } else if (word == 5) {
                if (place[2] != 9) {
                    return new Way(steps, 2);
                }
                kind = value;
            } else if (word < 5) {
                int end = isFromSpindle ? place[word - 2] + value : value;
                if (!in(end, 0, top[word - 2])) {
                    return new Way(steps, 1);
                }
                while (place[word - 2] != end) {
                    place[word - 2] += Integer.signum(end - place[word - 2]);
                    steps.add(new Step(place[0], place[1], place[2], isCutting, kind));
                }
            }
        }
        return new Way(steps, 0);
    }

    /** How many steps cut by each kind, then what is wrong, and the steps ahead of that. */
    private static int[] tried(Pallet pallet, Iterable<Step> steps, int wrongAtEnd) {
        Map<Integer, Integer> cut = new HashMap<>();
        int[] found = new int[6];
        for (Step step : steps) {
            int stock = cut.getOrDefault(step.cell(), pallet.height(step.cell()));
            boolean isBelow = step.z < stock;
            if (step.z < pallet.clamps.getOrDefault(step.cell(), 0)
                    || isBelow && (!step.isCutting || step.kind < 0)) {
                found[4] = 3;
                return found;
            }
            found[5]++;
            if (isBelow) {
                found[step.kind]++;
                cut.put(step.cell(), step.z);
            }
        }
        found[4] = wrongAtEnd;
        return found;
    }

    private int[] tried(int pallet, int program) {
        one(pallet, pallets);
        one(program, programs);
        Way way = way(program);
        return tried(pallets.get(pallet), way.steps, way.wrong);
    }

    int prove(int pallet, int program) {
        int[] found = tried(pallet, program);
        return found[4] == 0 ? -1 : 10000 * found[4] + found[5];
    }

    int takes(int pallet, int program) {
        int[] found = tried(pallet, program);
        return found[4] != 0 ? -1 : found[0] + found[1] + found[2] + found[3];
    }

    int plan(int pallet, int program) {
        int[] found = tried(pallet, program);
        Pallet p = pallets.get(pallet);
        state(p.state == 0 && found[4] == 0);
        p.state = 1;
        p.toGo.addAll(way(program).steps);
        queue.add(pallet);
        return queue.size();
    }

    int night() {
        int done = 0;
        while (!queue.isEmpty()) {
            Pallet p = pallets.get(queue.get(0));
            while (!p.toGo.isEmpty()) {
                Step step = p.toGo.peek();
                if (step.z < p.height(step.cell()) && !cut(p, step)) {
                    return done;
                }
                p.toGo.remove();
                p.gone++;
            }
            p.state = 2;
            queue.remove(0);
            done++;
        }
        return done;
    }

    private boolean cut(Pallet p, Step step) {
        int lowest = magazine.stream().filter(t -> tools.get(t).kind == step.kind)
                .filter(t -> tools.get(t).used < tools.get(t).life).min(Integer::compare).orElse(-1);
        if (lowest < 0) {
            return false;
        }
        Tool tool = tools.get(lowest);
        int[] parts = {map[step.x], warmth * step.x / 10, tool.used / 4, -tool.offset};
        int cause = -1;
        for (int n = 3; n >= 0; n--) {
            if (parts[n] != 0 && (cause < 0 || Math.abs(parts[n]) >= Math.abs(parts[cause]))) {
                cause = n;
            }
        }
        p.heights.put(step.cell(), step.z);
        p.cuts.put(step.cell(), new Cut(1000 * step.z + Arrays.stream(parts).sum(), lowest, cause));
        tool.used++;
        minute++;
        warmth += warmth < 99 ? 1 : 0;
        return true;
    }

    int foresees() {
        Model copy = new Model();
        tools.forEach(t -> copy.tools.add(t.copy()));
        copy.magazine.addAll(magazine);
        pallets.forEach(p -> copy.pallets.add(p.copy()));
        copy.queue.addAll(queue);
        return copy.night();
    }

    int lacks(int kind) {
        argument(in(kind, 0, 3));
        int cuts = 0;
        for (int pallet : queue) {
            cuts += tried(pallets.get(pallet), pallets.get(pallet).toGo, 0)[kind];
        }
        for (int t : magazine) {
            cuts -= tools.get(t).kind == kind ? tools.get(t).life - tools.get(t).used : 0;
        }
        return cuts < 0 ? 0 : cuts;
    }

    int idle(int minutes) {
        argument(in(minutes, 1, 500));
        state(minute + minutes <= 1000000);
        minute += minutes;
        warmth = warmth < minutes ? 0 : warmth - minutes;
        return minute;
    }

    int calibrate(int gauge, int doubt) {
        index(in(gauge, 0, 3));
        argument(in(doubt, 0, 30));
        gauges[gauge] = new int[] {minute, doubt};
        return minute + 999;
    }

    int drawing() {
        state(drawings.size() != 4);
        drawings.add(new ArrayList<>());
        return drawings.size() - 1;
    }

    int feature(int drawing, int x, int y, int height, int tolerance) {
        one(drawing, drawings);
        cell(x, y);
        argument(in(height, 0, 9) && in(tolerance, 1, 99));
        state(drawings.get(drawing).size() != 6);
        Feature feature = new Feature();
        feature.x = x;
        feature.y = y;
        feature.height = height;
        feature.tolerance = tolerance;
        drawings.get(drawing).add(feature);
        return drawings.get(drawing).size();
    }

    int allow(int drawing, int feature, int more, int count) {
        one(drawing, drawings);
        one(feature, drawings.get(drawing));
        argument(in(more, 0, 99) && in(count, 1, 9));
        Feature f = drawings.get(drawing).get(feature);
        f.allowed.clear();
        for (int n = 0; n < count; n++) {
            f.allowed.add(more);
        }
        return f.tolerance + more;
    }

    int judge(int pallet, int drawing, int gauge) {
        one(pallet, pallets);
        one(drawing, drawings);
        index(in(gauge, 0, 3));
        Pallet p = pallets.get(pallet);
        state(p.state == 2 && !drawings.get(drawing).isEmpty() && papers.size() != 30);
        int[] by = gauges[gauge];
        state(by != null && minute <= by[0] + 999);
        List<Integer> aways = new ArrayList<>();
        boolean isRejected = false;
        boolean isAccepted = true;
        for (Feature f : drawings.get(drawing)) {
            Cut cut = p.cuts.get(100 * f.x + f.y);
            int size = cut == null ? 1000 * p.stock : cut.size;
            int away = size + (minute - by[0]) / 100 - 1000 * f.height;
            int tolerance = f.tolerance + (f.allowed.isEmpty() ? 0 : f.allowed.remove());
            isRejected |= away > tolerance + by[1] || -away > tolerance + by[1];
            isAccepted &= away <= tolerance - by[1] && -away <= tolerance - by[1];
            aways.add(away);
            if (cut != null) {
                tools.get(cut.tool).told.add(0, away);
            }
        }
        p.judged = isRejected ? 2 : isAccepted ? 0 : 1;
        papers.add(new Paper(pallet, drawing, p.judged, minute, by[1], aways));
        return papers.size() - 1;
    }

    int correct(int tool) {
        one(tool, tools);
        Tool t = tools.get(tool);
        List<Integer> latest = t.told.subList(0, Math.min(3, t.told.size()));
        boolean isAbove = latest.stream().allMatch(away -> away > 0);
        boolean isBelow = latest.stream().allMatch(away -> away < 0);
        if (latest.size() < 3 || !isAbove && !isBelow) {
            return 0;
        }
        int was = t.offset;
        t.offset += latest.stream().mapToInt(away -> away).sum() / 3 / 2;
        t.offset = t.offset > 200 ? 200 : t.offset < -200 ? -200 : t.offset;
        t.told.clear();
        return t.offset - was;
    }

    int minute() {
        return minute;
    }

    int warmth() {
        return warmth;
    }

    int ofTool(int tool, int what) {
        one(tool, tools);
        argument(in(what, 0, 5));
        Tool t = tools.get(tool);
        return new int[] {t.kind, t.life, t.used, t.offset, magazine.contains(tool) ? 1 : 0, t.told.size()}[what];
    }

    int ofCell(int pallet, int x, int y, int what) {
        one(pallet, pallets);
        cell(x, y);
        argument(in(what, 0, 4));
        Pallet p = pallets.get(pallet);
        Cut cut = p.cuts.getOrDefault(100 * x + y, new Cut(1000 * p.stock, -1, -1));
        return new int[] {p.height(100 * x + y), cut.size, cut.tool, cut.cause,
            p.clamps.getOrDefault(100 * x + y, 0)}[what];
    }

    int ofPallet(int pallet, int what) {
        one(pallet, pallets);
        argument(in(what, 0, 3));
        Pallet p = pallets.get(pallet);
        return new int[] {p.state, p.gone, queue.indexOf(pallet), p.judged}[what];
    }

    int ofPaper(int paper, int what) {
        one(paper, papers);
        argument(in(what, 0, 10));
        Paper p = papers.get(paper);
        if (what >= 5) {
            return what - 5 < p.aways.size() ? p.aways.get(what - 5) : 0;
        }
        return new int[] {p.pallet, p.drawing, p.verdict, p.minute, p.doubt}[what];
    }

    int judgeAnew(int paper) {
        return ofPaper(paper, 2);
    }

    /** Whether the pallet would be DONE by the program without a cut. */
    boolean isIdle(int pallet, int program) {
        return in(pallet, 0, pallets.size() - 1) && in(program, 0, programs.size() - 1) && takes(pallet, program) == 0;
    }

    /** x, y and height of a cell that was cut, if one is found: what is drawn like that may be accepted. */
    int[] someCut(java.util.Random random) {
        if (pallets.isEmpty()) {
            return null;
        }
        Pallet p = pallets.get(random.nextInt(pallets.size()));
        List<Integer> cells = new ArrayList<>(new java.util.TreeSet<>(p.cuts.keySet()));
        if (cells.isEmpty()) {
            return null;
        }
        int cell = cells.get(random.nextInt(cells.size()));
        return new int[] {cell / 100, cell % 100, p.height(cell)};
    }

    /** How often each thing came up, so that a test can tell that its runs went deep. */
    void count(Map<String, Integer> seen) {
        Map<String, Integer> now = new TreeMap<>();
        for (Pallet p : pallets) {
            now.merge("pallet " + p.state, 1, Integer::sum);
            now.merge(p.state == 1 && p.gone > 0 ? "held in the midst" : "not held", 1, Integer::sum);
            for (Cut cut : p.cuts.values()) {
                now.merge("cause " + cut.cause, 1, Integer::sum);
            }
        }
        for (Paper p : papers) {
            now.merge("verdict " + p.verdict, 1, Integer::sum);
        }
        for (Tool t : tools) {
            now.merge(t.offset == 0 ? "no offset" : "offset", 1, Integer::sum);
            now.merge(t.used == t.life ? "worn out" : "not worn out", 1, Integer::sum);
        }
        now.forEach((key, count) -> seen.merge(key, count, Integer::sum));
    }
}
