import java.util.ArrayList;
import java.util.Arrays;

/** A machine shop run by its schedules of wear; ../shared/DOC.md says what each call promises. */
public final class ToolCrib {
    public static final int NONE = -1;
    public static final int MODE = 0, MEASURE = 1, X = 2, Y = 3, Z = 4, KIND = 5, CALL = 6;
    public static final int TRAVEL = 1, WRONG = 2, CRASH = 3, ENDLESS = 4;
    public static final int RAW = 0, PLANNED = 1, DONE = 2;
    public static final int ACCEPTED = 0, DOUBTFUL = 1, REJECTED = 2;

    private static final int SIDE = 12, CELLS = SIDE * SIDE, TOP = 9;
    private static final int AXES = 3, ALONG_X = 0, ALONG_Y = 1, ALONG_Z = 2;
    private static final int KINDS = 4, MAGAZINE = 6, GAUGES = 4, CLAMPS = 3;
    private static final int MOST_PROGRAMS = 6, MOST_BLOCKS = 30, MOST_TOOLS = 16, MOST_PALLETS = 6;
    private static final int MOST_DRAWINGS = 4, MOST_FEATURES = 6, MOST_PAPERS = 30;
    private static final int BLOCKS_A_RUN = 600, STEPS_A_RUN = BLOCKS_A_RUN * (SIDE - 1);
    private static final int FINE = 0, LATEST = 3, MOST_OFFSET = 200, MOST_WARMTH = 99;
    private static final int LAST_MINUTE = 1000000, GOOD_MINUTES = 1000, DRIFT_MINUTES = 100;

    private final ArrayList<Tool> tools = new ArrayList<>();
    private final ArrayList<Pallet> pallets = new ArrayList<>();
    private final ArrayList<Pallet> queue = new ArrayList<>();
    private final ArrayList<Gauge> gauges = new ArrayList<>();
    private final ArrayList<Drawing> drawings = new ArrayList<>();
    private final ArrayList<Paper> papers = new ArrayList<>();
    private final int[] mapErrors = new int[SIDE];
    private final int[] errorParts = new int[4];
    private final int[] livesLeft = new int[KINDS];
    // Every run through a program, meant or tried, uses these two again: no call makes rows of its own.
    private final Walk walk = new Walk();
    private final Trial trial = new Trial();
    private int now;
    private int heat;

    public ToolCrib() {
        for (int n = 0; n < GAUGES; n++) {
            gauges.add(new Gauge());
        }
    }

    // ---- programs, tools

    public int program() throws IllegalStateException {
        if (walk.programs.size() >= MOST_PROGRAMS) {
            throw new IllegalStateException("no more programs");
        }
        walk.programs.add(new Program());
        return walk.programs.size() - 1;
    }

    public int block(int program, int word, int value)
            throws IndexOutOfBoundsException, IllegalArgumentException, IllegalStateException {
        Program written = programAt(program);
        if (!isBlock(program, word, value)) {
            throw new IllegalArgumentException("word or value");
        }
        if (written.size >= MOST_BLOCKS || !queue.isEmpty()) {
            throw new IllegalStateException("full, or a pallet is planned");
        }
        written.append(word, value);
        return written.size;
    }

    public int map(int x, int error) throws IllegalArgumentException {
        if (!isWithin(x, 0, SIDE - 1) || !isWithin(error, -50, 50)) {
            throw new IllegalArgumentException("x or error");
        }
        int before = mapErrors[x];
        mapErrors[x] = error;
        return before;
    }

    public int tool(int kind, int life) throws IllegalArgumentException, IllegalStateException {
        if (!isWithin(kind, 0, KINDS - 1) || !isWithin(life, 1, 500)) {
            throw new IllegalArgumentException("kind or life");
        }
        if (tools.size() >= MOST_TOOLS) {
            throw new IllegalStateException("no more tools");
        }
        tools.add(new Tool(tools.size(), kind, life));
        return tools.size() - 1;
    }

    public int load(int tool, boolean isIn) throws IndexOutOfBoundsException, IllegalStateException {
        Tool moved = toolAt(tool);
        if (isIn && !moved.isIn && countLoaded() >= MAGAZINE) {
            throw new IllegalStateException("the magazine is full");
        }
        moved.isIn = isIn;
        return countLoaded();
    }

    // ---- pallets, nights

    public int pallet(int stock) throws IllegalArgumentException, IllegalStateException {
        if (!isWithin(stock, 1, 9)) {
            throw new IllegalArgumentException("stock");
        }
        if (pallets.size() >= MOST_PALLETS) {
            throw new IllegalStateException("no more pallets");
        }
        pallets.add(new Pallet(stock));
        return pallets.size() - 1;
    }

    public int clamp(int pallet, int x, int y, int height)
            throws IndexOutOfBoundsException, IllegalArgumentException, IllegalStateException {
        Pallet held = palletAt(pallet);
        int cell = cellAt(x, y);
        if (!isWithin(height, 1, 9)) {
            throw new IllegalArgumentException("height");
        }
        if (held.state != RAW || held.clamps[cell] != 0 || held.clamped >= CLAMPS) {
            throw new IllegalStateException("no clamp can be put there");
        }
        held.clamps[cell] = height;
        held.clamped++;
        return held.clamped;
    }

    public int prove(int pallet, int program) throws IndexOutOfBoundsException {
        tryWhole(pallet, program);
        return trial.wrong == FINE ? NONE : 10000 * trial.wrong + trial.steps;
    }

    public int takes(int pallet, int program) throws IndexOutOfBoundsException {
        tryWhole(pallet, program);
        return trial.wrong == FINE ? trial.cuts : NONE;
    }

    public int plan(int pallet, int program) throws IndexOutOfBoundsException, IllegalStateException {
        Pallet planned = palletAt(pallet);
        tryWhole(pallet, program);
        if (planned.state != RAW || trial.wrong != FINE) {
            throw new IllegalStateException("not raw, or something is wrong");
        }
        planned.state = PLANNED;
        planned.program = program;
        queue.add(planned);
        return queue.size();
    }

    public int night() {
        int done = 0;
        for (int n = 0; n < MOST_PALLETS && !queue.isEmpty(); n++) {
            Pallet first = queue.get(0);
            if (!isCutToEnd(first)) {
                break;
            }
            first.state = DONE;
            queue.remove(0);
            done++;
        }
        return done;
    }

    public int foresees() {
        for (int kind = 0; kind < KINDS; kind++) {
            livesLeft[kind] = countLeft(kind);
        }
        for (int n = 0; n < queue.size(); n++) {
            if (!isEnoughFor(queue.get(n))) {
                return n;
            }
        }
        return queue.size();
    }

    public int lacks(int kind) throws IllegalArgumentException {
        if (!isWithin(kind, 0, KINDS - 1)) {
            throw new IllegalArgumentException("kind");
        }
        int cuts = 0;
        for (int n = 0; n < queue.size(); n++) {
            Pallet waiting = queue.get(n);
            trial.run(walk, waiting, waiting.program, waiting.gone);
            cuts += trial.cutsByKind[kind];
        }
        return Math.max(0, cuts - countLeft(kind));
    }

    public int idle(int minutes) throws IllegalArgumentException, IllegalStateException {
        if (!isWithin(minutes, 1, 500)) {
            throw new IllegalArgumentException("minutes");
        }
        if (now + minutes > LAST_MINUTE) {
            throw new IllegalStateException("too late");
        }
        now += minutes;
        heat = Math.max(0, heat - minutes);
        return now;
    }

    // ---- gauges, papers, corrections

    public int calibrate(int gauge, int doubt) throws IndexOutOfBoundsException, IllegalArgumentException {
        Gauge set = gaugeAt(gauge);
        if (!isWithin(doubt, 0, 30)) {
            throw new IllegalArgumentException("doubt");
        }
        set.since = now;
        set.doubt = doubt;
        return now + GOOD_MINUTES - 1;
    }

    public int drawing() throws IllegalStateException {
        if (drawings.size() >= MOST_DRAWINGS) {
            throw new IllegalStateException("no more drawings");
        }
        drawings.add(new Drawing());
        return drawings.size() - 1;
    }

    public int feature(int drawing, int x, int y, int height, int tolerance)
            throws IndexOutOfBoundsException, IllegalArgumentException, IllegalStateException {
        Drawing drawn = drawingAt(drawing);
        int cell = cellAt(x, y);
        if (!isWithin(height, 0, 9) || !isWithin(tolerance, 1, 99)) {
            throw new IllegalArgumentException("height or tolerance");
        }
        if (drawn.size >= MOST_FEATURES) {
            throw new IllegalStateException("no more features");
        }
        drawn.append(cell, height, tolerance);
        return drawn.size;
    }

    public int allow(int drawing, int feature, int more, int papers)
            throws IndexOutOfBoundsException, IllegalArgumentException {
        Drawing drawn = drawingAt(drawing);
        if (!isWithin(feature, 0, drawn.size - 1)) {
            throw new IndexOutOfBoundsException("no such feature");
        }
        if (!isWithin(more, 0, 99) || !isWithin(papers, 1, 9)) {
            throw new IllegalArgumentException("more or papers");
        }
        drawn.more[feature] = more;
        drawn.papersLeft[feature] = papers;
        return drawn.toleranceNow(feature);
    }

    public int judge(int pallet, int drawing, int gauge) throws IndexOutOfBoundsException, IllegalStateException {
        Pallet part = palletAt(pallet);
        Drawing drawn = drawingAt(drawing);
        Gauge used = gaugeAt(gauge);
        if (part.state != DONE || drawn.size == 0 || !used.isGood(now) || papers.size() >= MOST_PAPERS) {
            throw new IllegalStateException("the part cannot be judged");
        }
        Paper paper = new Paper(pallet, drawing, now, used.doubt);
        for (int n = 0; n < drawn.size; n++) {
            int cell = drawn.cells[n];
            int away = used.reads(part.sizes[cell], now) - 1000 * drawn.heights[n];
            paper.append(away, drawn.toleranceNow(n));
            tell(part.cutters[cell], away);
        }
        drawn.spendPaper();
        part.judged = paper.verdict();
        papers.add(paper);
        return papers.size() - 1;
    }

    public int correct(int tool) throws IndexOutOfBoundsException {
        return toolAt(tool).correctOffset();
    }

    // ---- what is asked

    public int minute() {
        return now;
    }

    public int warmth() {
        return heat;
    }

    public int ofTool(int tool, int what) throws IndexOutOfBoundsException, IllegalArgumentException {
        Tool asked = toolAt(tool);
        switch (what) {
            case 0:
                return asked.kind;
            case 1:
                return asked.life;
            case 2:
                return asked.used;
            case 3:
                return asked.offset;
            case 4:
                return asked.isIn ? 1 : 0;
            case 5:
                return asked.told;
            default:
                throw new IllegalArgumentException("what");
        }
    }

    public int ofCell(int pallet, int x, int y, int what) throws IndexOutOfBoundsException, IllegalArgumentException {
        Pallet asked = palletAt(pallet);
        int cell = cellAt(x, y);
        switch (what) {
            case 0:
                return asked.heights[cell];
            case 1:
                return asked.sizes[cell];
            case 2:
                return asked.cutters[cell];
            case 3:
                return asked.causes[cell];
            case 4:
                return asked.clamps[cell];
            default:
                throw new IllegalArgumentException("what");
        }
    }

    public int ofPallet(int pallet, int what) throws IndexOutOfBoundsException, IllegalArgumentException {
        Pallet asked = palletAt(pallet);
        switch (what) {
            case 0:
                return asked.state;
            case 1:
                return asked.gone;
            case 2:
                return placeInQueue(asked);
            case 3:
                return asked.judged;
            default:
                throw new IllegalArgumentException("what");
        }
    }

    public int ofPaper(int paper, int what) throws IndexOutOfBoundsException, IllegalArgumentException {
        Paper asked = paperAt(paper);
        if (!isWithin(what, 0, 4 + MOST_FEATURES)) {
            throw new IllegalArgumentException("what");
        }
        switch (what) {
            case 0:
                return asked.pallet;
            case 1:
                return asked.drawing;
            case 2:
                return asked.verdict();
            case 3:
                return asked.written;
            case 4:
                return asked.doubt;
            default:
                return asked.aways[what - 5];
        }
    }

    public int judgeAnew(int paper) throws IndexOutOfBoundsException {
        return paperAt(paper).verdict();
    }

    // ---- what there is

    private Program programAt(int number) throws IndexOutOfBoundsException {
        if (number < 0 || number >= walk.programs.size()) {
            throw new IndexOutOfBoundsException("no such program");
        }
        return walk.programs.get(number);
    }

    private Tool toolAt(int number) throws IndexOutOfBoundsException {
        if (number < 0 || number >= tools.size()) {
            throw new IndexOutOfBoundsException("no such tool");
        }
        return tools.get(number);
    }

    private Pallet palletAt(int number) throws IndexOutOfBoundsException {
        if (number < 0 || number >= pallets.size()) {
            throw new IndexOutOfBoundsException("no such pallet");
        }
        return pallets.get(number);
    }

    private int cellAt(int x, int y) throws IndexOutOfBoundsException {
        if (!isWithin(x, 0, SIDE - 1) || !isWithin(y, 0, SIDE - 1)) {
            throw new IndexOutOfBoundsException("no such cell");
        }
        return y * SIDE + x;
    }

    private Gauge gaugeAt(int number) throws IndexOutOfBoundsException {
        if (number < 0 || number >= gauges.size()) {
            throw new IndexOutOfBoundsException("no such gauge");
        }
        return gauges.get(number);
    }

    private Drawing drawingAt(int number) throws IndexOutOfBoundsException {
        if (number < 0 || number >= drawings.size()) {
            throw new IndexOutOfBoundsException("no such drawing");
        }
        return drawings.get(number);
    }

    private Paper paperAt(int number) throws IndexOutOfBoundsException {
        if (number < 0 || number >= papers.size()) {
            throw new IndexOutOfBoundsException("no such paper");
        }
        return papers.get(number);
    }

    private static boolean isWithin(int number, int least, int most) {
        return number >= least && number <= most;
    }

    private static boolean isBlock(int program, int word, int value) {
        switch (word) {
            case MODE:
            case MEASURE:
                return isWithin(value, 0, 1);
            case X:
            case Y:
            case Z:
                return isWithin(value, 1 - SIDE, SIDE - 1);
            case KIND:
                return isWithin(value, 0, KINDS - 1);
            case CALL:
                return isWithin(value, 0, program - 1);
            default:
                return false;
        }
    }

    private int placeInQueue(Pallet asked) {
        for (int n = 0; n < queue.size(); n++) {
            if (queue.get(n) == asked) {
                return n;
            }
        }
        return NONE;
    }

    // ---- the magazine

    private int countLoaded() {
        int loaded = 0;
        for (int n = 0; n < tools.size(); n++) {
            loaded += tools.get(n).isIn ? 1 : 0;
        }
        return loaded;
    }

    private int countLeft(int kind) {
        int left = 0;
        for (int n = 0; n < tools.size(); n++) {
            left += tools.get(n).leftFor(kind);
        }
        return left;
    }

    private Tool lowestToolFor(int kind) {
        for (int n = 0; n < tools.size(); n++) {
            if (tools.get(n).leftFor(kind) > 0) {
                return tools.get(n);
            }
        }
        return null;
    }

    private void tell(int cutter, int away) {
        if (cutter >= 0 && cutter < tools.size()) {
            tools.get(cutter).hear(away);
        }
    }

    // ---- runs

    private void tryWhole(int pallet, int program) throws IndexOutOfBoundsException {
        Pallet tried = palletAt(pallet);
        programAt(program);
        trial.run(walk, tried, program, 0);
    }

    // Tools of a kind stand in for one another, so only the minutes of each kind together decide.
    private boolean isEnoughFor(Pallet waiting) {
        trial.run(walk, waiting, waiting.program, waiting.gone);
        for (int kind = 0; kind < KINDS; kind++) {
            livesLeft[kind] -= trial.cutsByKind[kind];
            if (livesLeft[kind] < 0) {
                return false;
            }
        }
        return true;
    }

    // Nothing can go wrong here: plan() proved it, and no block is added while a pallet is planned.
    // The steps gone are walked again without a look at the stock, so that all modes are set as they were.
    private boolean isCutToEnd(Pallet first) {
        int goneBefore = first.gone;
        walk.begin(first.program);
        for (int n = 0; n <= STEPS_A_RUN && walk.goStep(); n++) {
            if (n < goneBefore) {
                continue;
            }
            if (walk.isBelow(first.heights)) {
                Tool cutting = lowestToolFor(walk.kind);
                if (cutting == null) {
                    return false;
                }
                cutBy(cutting, first);
            }
            first.gone++;
        }
        return true;
    }

    private void cutBy(Tool cutting, Pallet first) {
        int cell = walk.cellNow();
        int x = walk.at[ALONG_X];
        errorParts[0] = mapErrors[x];
        errorParts[1] = heat * x / 10;
        errorParts[2] = cutting.used / 4;
        errorParts[3] = -cutting.offset;
        first.heights[cell] = walk.at[ALONG_Z];
        first.sizes[cell] = 1000 * walk.at[ALONG_Z];
        for (int part = 0; part < errorParts.length; part++) {
            first.sizes[cell] += errorParts[part];
        }
        first.cutters[cell] = cutting.number;
        first.causes[cell] = greatestPart();
        cutting.used++;
        now++;
        heat = Math.min(MOST_WARMTH, heat + 1);
    }

    private int greatestPart() {
        int greatest = NONE;
        int most = 0;
        for (int part = 0; part < errorParts.length; part++) {
            if (Math.abs(errorParts[part]) > most) {
                most = Math.abs(errorParts[part]);
                greatest = part;
            }
        }
        return greatest;
    }

    private static final class Program {
        final int[] words = new int[MOST_BLOCKS];
        final int[] values = new int[MOST_BLOCKS];
        int size;

        void append(int word, int value) {
            if (size < MOST_BLOCKS) {
                words[size] = word;
                values[size] = value;
                size++;
            }
        }
    }

    private static final class Tool {
        final int number;
        final int kind;
        final int life;
        final int[] latest = new int[LATEST];
        int used;
        int offset;
        int told;
        boolean isIn;

        Tool(int number, int kind, int life) {
            this.number = number;
            this.kind = kind;
            this.life = life;
        }

        int leftFor(int asked) {
            return isIn && kind == asked ? life - used : 0;
        }

        void hear(int away) {
            latest[told % LATEST] = away;
            told++;
        }

        int correctOffset() {
            if (told < LATEST || !isOneWay()) {
                return 0;
            }
            int sum = 0;
            for (int n = 0; n < LATEST; n++) {
                sum += latest[n];
            }
            int before = offset;
            offset = Math.max(-MOST_OFFSET, Math.min(MOST_OFFSET, before + sum / LATEST / 2));
            told = 0;
            return offset - before;
        }

        private boolean isOneWay() {
            int above = 0;
            int below = 0;
            for (int n = 0; n < LATEST; n++) {
                above += latest[n] > 0 ? 1 : 0;
                below += latest[n] < 0 ? 1 : 0;
            }
            return above == LATEST || below == LATEST;
        }
    }

    private static final class Pallet {
        final int[] heights = new int[CELLS];
        final int[] sizes = new int[CELLS];
        final int[] cutters = new int[CELLS];
        final int[] causes = new int[CELLS];
        final int[] clamps = new int[CELLS];
        int clamped;
        int state = RAW;
        int program = NONE;
        int gone;
        int judged = NONE;

        Pallet(int stock) {
            Arrays.fill(heights, stock);
            Arrays.fill(sizes, 1000 * stock);
            Arrays.fill(cutters, NONE);
            Arrays.fill(causes, NONE);
        }
    }

    private static final class Gauge {
        int since = NONE;
        int doubt;

        boolean isGood(int minute) {
            return since != NONE && minute - since < GOOD_MINUTES;
        }

        int reads(int size, int minute) {
            return size + (minute - since) / DRIFT_MINUTES;
        }
    }

    private static final class Drawing {
        final int[] cells = new int[MOST_FEATURES];
        final int[] heights = new int[MOST_FEATURES];
        final int[] tolerances = new int[MOST_FEATURES];
        final int[] more = new int[MOST_FEATURES];
        final int[] papersLeft = new int[MOST_FEATURES];
        int size;

        void append(int cell, int height, int tolerance) {
            if (size < MOST_FEATURES) {
                cells[size] = cell;
                heights[size] = height;
                tolerances[size] = tolerance;
                size++;
            }
        }

        int toleranceNow(int feature) {
            return tolerances[feature] + (papersLeft[feature] > 0 ? more[feature] : 0);
        }

        void spendPaper() {
            for (int n = 0; n < size; n++) {
                papersLeft[n] = Math.max(0, papersLeft[n] - 1);
            }
        }
    }

    // A paper keeps its own tolerances: what is allowed later, or no longer, must not change it.
    private static final class Paper {
        final int pallet;
        final int drawing;
        final int written;
        final int doubt;
        final int[] aways = new int[MOST_FEATURES];
        final int[] tolerances = new int[MOST_FEATURES];
        int size;

        Paper(int pallet, int drawing, int written, int doubt) {
            this.pallet = pallet;
            this.drawing = drawing;
            this.written = written;
            this.doubt = doubt;
        }

        void append(int away, int tolerance) {
            if (size < MOST_FEATURES) {
                aways[size] = away;
                tolerances[size] = tolerance;
                size++;
            }
        }

        int verdict() {
            int verdict = ACCEPTED;
            for (int n = 0; n < size; n++) {
                int away = Math.abs(aways[n]);
                if (away > tolerances[n] + doubt) {
                    return REJECTED;
                }
                if (away > tolerances[n] - doubt) {
                    verdict = DOUBTFUL;
                }
            }
            return verdict;
        }
    }

    /** The programs, and the way of the spindle through one of them, whatever stands below it. */
    private static final class Walk {
        final ArrayList<Program> programs = new ArrayList<>();
        private final ArrayList<Program> open = new ArrayList<>();
        private final int[] next = new int[MOST_PROGRAMS];
        final int[] at = new int[AXES];
        private int axis;
        private int goal;
        private int blocksDone;
        private boolean isCutting;
        private boolean isFromSpindle;
        int kind;
        int wrong;

        void begin(int program) {
            open.clear();
            at[ALONG_X] = 0;
            at[ALONG_Y] = 0;
            at[ALONG_Z] = TOP;
            axis = ALONG_X;
            goal = 0;
            blocksDone = 0;
            isCutting = false;
            isFromSpindle = false;
            kind = NONE;
            wrong = FINE;
            enter(program);
        }

        /** Comes to the next cell or height; false at the end, and ahead of what is wrong. */
        boolean goStep() {
            for (int n = 0; n <= BLOCKS_A_RUN && wrong == FINE; n++) {
                if (at[axis] != goal) {
                    at[axis] += at[axis] < goal ? 1 : -1;
                    return true;
                }
                leaveEnded();
                if (open.isEmpty()) {
                    return false;
                }
                obeyNext(open.size() - 1);
            }
            return false;
        }

        int cellNow() {
            return at[ALONG_Y] * SIDE + at[ALONG_X];
        }

        boolean isBelow(int[] heights) {
            return at[ALONG_Z] < heights[cellNow()];
        }

        boolean canCut() {
            return isCutting && kind != NONE;
        }

        private void leaveEnded() {
            for (int depth = open.size() - 1; depth >= 0; depth--) {
                if (next[depth] < open.get(depth).size) {
                    return;
                }
                open.remove(depth);
            }
        }

        private void obeyNext(int depth) {
            if (blocksDone >= BLOCKS_A_RUN) {
                wrong = ENDLESS;
                return;
            }
            blocksDone++;
            int place = next[depth];
            next[depth]++;
            int value = open.get(depth).values[place];
            switch (open.get(depth).words[place]) {
                case MODE:
                    isCutting = value == 1;
                    break;
                case MEASURE:
                    isFromSpindle = value == 1;
                    break;
                case X:
                    aim(ALONG_X, value, SIDE - 1);
                    break;
                case Y:
                    aim(ALONG_Y, value, SIDE - 1);
                    break;
                case Z:
                    aim(ALONG_Z, value, TOP);
                    break;
                case KIND:
                    changeTool(value);
                    break;
                case CALL:
                    enter(value);
                    break;
                default:
                    break;
            }
        }

        private void changeTool(int wanted) {
            if (at[ALONG_Z] != TOP) {
                wrong = WRONG;
            } else {
                kind = wanted;
            }
        }

        private void enter(int program) {
            int depth = open.size();
            if (program >= 0 && program < programs.size() && depth < MOST_PROGRAMS) {
                next[depth] = 0;
                open.add(programs.get(program));
            }
        }

        private void aim(int along, int value, int last) {
            int place = isFromSpindle ? at[along] + value : value;
            if (place < 0 || place > last) {
                wrong = TRAVEL;
            } else {
                axis = along;
                goal = place;
            }
        }
    }

    /** A run through a program on stock of its own, so that it changes nothing. */
    private static final class Trial {
        private final int[] heights = new int[CELLS];
        final int[] cutsByKind = new int[KINDS];
        int steps;
        int cuts;
        int wrong;

        void run(Walk walk, Pallet tried, int program, int gone) {
            System.arraycopy(tried.heights, 0, heights, 0, CELLS);
            Arrays.fill(cutsByKind, 0);
            steps = 0;
            cuts = 0;
            walk.begin(program);
            for (int n = 0; n <= STEPS_A_RUN && walk.goStep(); n++) {
                if (n < gone) {
                    continue;
                }
                if (walk.isBelow(tried.clamps) || walk.isBelow(heights) && !walk.canCut()) {
                    wrong = CRASH;
                    return;
                }
                steps++;
                if (walk.isBelow(heights)) {
                    cuts++;
                    cutsByKind[walk.kind]++;
                    heights[walk.cellNow()] = walk.at[ALONG_Z];
                }
            }
            wrong = walk.wrong;
        }
    }
}
