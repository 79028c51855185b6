/** Each sentence on tools and errors that names a bound: Terms, promises 4, 5, 6, 23, 24, and causes (25). */
final class EdgesOfToolsTest {
    private static final int MODE = ToolCrib.MODE, X = ToolCrib.X, Y = ToolCrib.Y, Z = ToolCrib.Z,
            KIND = ToolCrib.KIND, CALL = ToolCrib.CALL, NONE = ToolCrib.NONE;
    private static final int HEIGHT = 0, SIZE = 1, TOOL = 2, CAUSE = 3;
    private static final int USED = 2, OFFSET = 3, IS_IN = 4, TOLD = 5;

    /** "an error told for each x, 0 at first"; "error: -50 to 50", "x: 0 to 11": what is cut has the bounds in it. */
    static void promise04_theBoundsAreCut() {
        int[] errors = {-50, 50, -1, 1, 0, 0, 0, 0, 0, 0, -50, 50};
        ToolCrib shop = coldRow(errors);
        for (int x = 0; x < 12; x++) {
            Check.due("size at " + x, 1000 + errors[x], shop.ofCell(0, x, 0, SIZE));
            Check.due("cause at " + x, errors[x] == 0 ? NONE : 0, shop.ofCell(0, x, 0, CAUSE));
        }
    }

    /** "Returns what it was": 0 at first, the refused ones never. */
    static void promise04_whatItWas() {
        ToolCrib shop = new ToolCrib();
        Check.due("0 at first", 0, shop.map(0, -50));
        Check.refused(shop, Check.ARGUMENT, "one below", () -> shop.map(0, -51));
        Check.due("the least", -50, shop.map(0, 50));
        Check.refused(shop, Check.ARGUMENT, "one above", () -> shop.map(0, 51));
        Check.due("the greatest", 50, shop.map(0, 0));
        Check.refused(shop, Check.ARGUMENT, "behind the last x", () -> shop.map(12, 0));
        Check.due("the last x", 0, shop.map(11, 1));
        Check.refused(shop, Check.ARGUMENT, "ahead of the first x", () -> shop.map(-1, 0));
        Check.due("0 again", 0, shop.map(0, 0));
        Check.refused(shop, Check.ARGUMENT, "both", () -> shop.map(12, 51));
    }

    /** "Tools are numbered from 0, at most 16": the last one, and what is behind it. */
    static void promise05_theSixteenthIsThereAndNoSeventeenth() {
        ToolCrib shop = new ToolCrib();
        for (int n = 0; n < 16; n++) {
            int next = n;
            Check.refused(shop, Check.INDEX, "not ready yet", () -> shop.load(next, true));
            Check.refused(shop, Check.INDEX, "not ready yet", () -> shop.correct(next));
            Check.due("its number", n, shop.tool(n % 4, 500 - n));
        }
        Check.refused(shop, Check.STATE, "there are 16", () -> shop.tool(3, 500));
        Check.refused(shop, Check.INDEX, "the 17th", () -> shop.load(16, true));
        Check.refused(shop, Check.INDEX, "the 17th", () -> shop.load(16, false));
        Check.refused(shop, Check.INDEX, "the 17th", () -> shop.ofTool(16, 0));
        Check.refused(shop, Check.INDEX, "the 17th", () -> shop.correct(16));
        Check.due("the last one is a tool like others", 1, shop.load(15, true));
        Check.due("its kind", 3, shop.ofTool(15, 0));
        Check.due("its life", 485, shop.ofTool(15, 1));
        Check.due("it is in", 1, shop.ofTool(15, IS_IN));
    }

    /** "kind: 0 to 3", "life: 1 to 500": the least and the greatest, one below and one above, each by itself. */
    static void promise05_kindsAndLives() {
        ToolCrib shop = new ToolCrib();
        int[][] tools = {{0, 1}, {3, 1}, {0, 500}, {3, 500}, {1, 2}, {2, 499}};
        for (int n = 0; n < tools.length; n++) {
            int kind = tools[n][0];
            int life = tools[n][1];
            Check.refused(shop, Check.ARGUMENT, "a kind below", () -> shop.tool(-1, life));
            Check.refused(shop, Check.ARGUMENT, "a kind above", () -> shop.tool(4, life));
            Check.refused(shop, Check.ARGUMENT, "a life below", () -> shop.tool(kind, 0));
            Check.refused(shop, Check.ARGUMENT, "a life above", () -> shop.tool(kind, 501));
            Check.due("its number", n, shop.tool(kind, life));
            int[] want = {kind, life, 0, 0, 0, 0};
            for (int what = 0; what <= 5; what++) {
                Check.due("at first, " + what, want[what], shop.ofTool(n, what));
            }
        }
    }

    /** "the magazine, which holds 6": whatever tools, worn out ones too; "6 others" are the others. */
    static void promise06_sixOthers() {
        ToolCrib shop = new ToolCrib();
        Shop.write(shop, KIND, 0, MODE, 1, Z, 8);
        shop.pallet(9);
        shop.plan(0, 0);
        for (int n = 0; n < 16; n++) {
            shop.tool(n == 9 ? 0 : n % 3 + 1, 1);
        }
        for (int n = 15; n > 9; n--) {
            Check.due("in", 16 - n, shop.load(n, true));
        }
        Check.refused(shop, Check.STATE, "a seventh", () -> shop.load(9, true));
        Check.refused(shop, Check.STATE, "a seventh", () -> shop.load(0, true));
        for (int n = 15; n > 9; n--) {
            Check.due("each of the six may come in, and is there", 6, shop.load(n, true));
        }
        shop.load(15, false);
        shop.load(9, true);
        shop.night();
        Check.due("worn out", 1, shop.ofTool(9, USED));
        Check.refused(shop, Check.STATE, "a worn out one holds its place", () -> shop.load(15, true));
        Check.due("it goes out", 5, shop.load(9, false));
        Check.due("it comes in again", 6, shop.load(9, true));
        for (int n = 0; n < 16; n++) {
            shop.load(n, false);
        }
        Check.due("none", 0, shop.load(0, false));
        Check.due("one", 1, shop.load(0, true));
    }

    /** "the lowest tool of its kind in the magazine that has some of its life left". */
    static void promise12_theLowestTool() {
        ToolCrib shop = new ToolCrib();
        Shop.write(shop, KIND, 2, MODE, 1, Y, 11, Z, 8);
        int[] kinds = {2, 1, 2, 2, 3, 2, 0, 2};
        int[] lives = {1, 500, 1, 2, 500, 1, 500, 500};
        for (int n = 0; n < kinds.length; n++) {
            shop.tool(kinds[n], lives[n]);
        }
        for (int n : new int[] {7, 5, 3, 1, 4, 6}) {
            shop.load(n, true);
        }
        int[] cutters = {3, 3, 5, 7, 2, 0};
        for (int n = 0; n < 6; n++) {
            if (n == 4) {
                shop.load(5, false);
                shop.load(3, false);
                shop.load(2, true);
            } else if (n == 5) {
                shop.load(0, true);
            }
            shop.pallet(9);
            shop.plan(n, 0);
            Check.due("night", 1, shop.night());
            Check.due("who cut pallet " + n, cutters[n], shop.ofCell(n, 0, 11, TOOL));
        }
        int[] used = {1, 0, 1, 2, 0, 1, 0, 1};
        for (int n = 0; n < kinds.length; n++) {
            Check.due("minutes of " + n, used[n], shop.ofTool(n, USED));
        }
    }

    /** A life of 1 and of 500 minutes: so many steps, and not one more. */
    static void promise05_livesAreUsedUp() {
        for (int life : new int[] {1, 2, 499, 500}) {
            ToolCrib shop = new ToolCrib();
            int all = Shop.shaveAll(shop);
            shop.pallet(9);
            shop.plan(0, all);
            Shop.loaded(shop, 0, life);
            Check.due("night", 0, shop.night());
            Check.due("minute", life, shop.minute());
            Check.due("used", life, shop.ofTool(0, USED));
            shop.night();
            Check.due("nothing is left", life, shop.minute());
        }
    }

    /** "1000 times its height": "What was never cut has a size of 1000 times its height", and what was cut to 0. */
    static void promise25_sizesOfEachHeight() {
        for (int stock = 1; stock <= 9; stock++) {
            ToolCrib shop = new ToolCrib();
            Shop.loaded(shop, 0, 500);
            Shop.write(shop, KIND, 0, MODE, 1, Z, stock - 1);
            shop.map(0, -50);
            shop.pallet(stock);
            shop.plan(0, 0);
            shop.night();
            Check.due("cut", 1000 * (stock - 1) - 50, shop.ofCell(0, 0, 0, SIZE));
            Check.due("cut", stock - 1, shop.ofCell(0, 0, 0, HEIGHT));
            Check.due("never cut, DONE", 1000 * stock, shop.ofCell(0, 0, 1, SIZE));
            Check.due("never cut", NONE, shop.ofCell(0, 0, 1, TOOL));
            Check.due("NONE if nothing was cut there", NONE, shop.ofCell(0, 0, 1, CAUSE));
        }
    }

    /** "the warmth times x, divided by 10": just below 10, 10 itself, the next tens; "0 at first". */
    static void promise25_heatByWarmthAndX() {
        for (int warmth = 0; warmth <= 11; warmth++) {
            for (int x : new int[] {0, 1, 2, 3, 4, 5, 8, 9, 10, 11}) {
                ToolCrib shop = warm(warmth);
                Shop.loaded(shop, 1, 9);
                Shop.write(shop, KIND, 1, MODE, 1, X, x, Z, 8);
                shop.pallet(9);
                shop.plan(1, 1);
                shop.night();
                int heat = warmth * x / 10;
                Check.due("warmth " + warmth + ", x " + x, 8000 + heat, shop.ofCell(1, x, 0, SIZE));
                Check.due("its cause", heat == 0 ? NONE : 1, shop.ofCell(1, x, 0, CAUSE));
                Check.due("1 more, behind it", warmth + 1, shop.warmth());
            }
        }
    }

    /** Pallet 0 was cut in so many minutes, along y, by a tool of kind 0. */
    private static ToolCrib warm(int minutes) {
        ToolCrib shop = new ToolCrib();
        shop.pallet(9);
        int first = Shop.write(shop, KIND, 0, MODE, 1);
        if (minutes > 0) {
            Shop.append(shop, first, Z, 8, Y, minutes - 1);
        }
        Shop.loaded(shop, 0, 500);
        shop.plan(0, first);
        shop.night();
        Check.due("warmth", minutes, shop.warmth());
        return shop;
    }

    /** "the minutes that the tool was used ahead of the step, divided by 4": from 0 to the last of the longest life. */
    static void promise25_wearByMinutes() {
        ToolCrib shop = new ToolCrib();
        int all = Shop.shaveAll(shop);
        Shop.loaded(shop, 0, 500);
        shop.pallet(9);
        shop.plan(0, all);
        shop.night();
        // the way down cuts 144 cells a height: at x 0 there is no heat
        Check.due("used 0, then 144, then 288", 5000 + 432 / 4, shop.ofCell(0, 0, 0, SIZE));
        Check.due("used 23 more", 5000 + (432 + 23) / 4, shop.ofCell(0, 0, 1, SIZE));
        Check.due("used 24 more", 5000 + (432 + 24) / 4, shop.ofCell(0, 0, 2, SIZE));
        Check.due("used 47 more", 5000 + (432 + 47) / 4, shop.ofCell(0, 0, 3, SIZE));
        Check.due("used 48 more", 5000 + (432 + 48) / 4, shop.ofCell(0, 0, 4, SIZE));
        Check.due("the last minute, used 499", 5000 + 99 * 4 / 10 + 499 / 4, shop.ofCell(0, 4, 5, SIZE));
        Check.due("behind it", 6, shop.ofCell(0, 3, 5, HEIGHT));
        Check.due("wear", 2, shop.ofCell(0, 4, 5, CAUSE));
    }

    static void promise25_wearOfTheFirstMinutes() {
        ToolCrib shop = new ToolCrib();
        Shop.loaded(shop, 0, 500);
        Shop.write(shop, KIND, 0, MODE, 1, Z, 8, Y, 11);
        shop.pallet(9);
        shop.plan(0, 0);
        shop.night();
        for (int y = 0; y < 12; y++) {
            Check.due("used " + y, 8000 + y / 4, shop.ofCell(0, 0, y, SIZE));
            Check.due("its cause", y < 4 ? NONE : 2, shop.ofCell(0, 0, y, CAUSE));
        }
    }

    /** "The warmth .. is 1 more with each step that cuts, .. at most 99, and 1 less with each idle minute, at least 0". */
    static void promise23_fromNoughtToNinetyNineAndBack() {
        ToolCrib shop = new ToolCrib();
        int all = Shop.shaveAll(shop);
        shop.pallet(9);
        shop.plan(0, all);
        Check.due("a new object", 0, shop.warmth());
        shop.idle(1);
        Check.due("at least 0", 0, shop.warmth());
        int[] lives = {1, 97, 1, 1, 30};
        int[] warmths = {1, 98, 99, 99, 99};
        for (int n = 0; n < lives.length; n++) {
            Shop.loaded(shop, 0, lives[n]);
            shop.night();
            Check.due("warmth", warmths[n], shop.warmth());
        }
        shop.idle(98);
        Check.due("1", 1, shop.warmth());
        shop.idle(500);
        Check.due("at least 0", 0, shop.warmth());
        Shop.loaded(shop, 0, 500);
        shop.load(0, false);
        shop.night();
        Check.due("99 again", 99, shop.warmth());
        shop.idle(99);
        Check.due("0 exactly", 0, shop.warmth());
        Check.due("as many minutes as were cut and idled", 1 + 130 + 598 + 500 + 99, shop.minute());
    }

    /** Steps that do not cut, nights without steps, and refused idle minutes leave warmth and minute as they are. */
    static void promise23_whatDoesNotWarm() {
        ToolCrib shop = warm(5);
        int away = Shop.write(shop, KIND, 0, MODE, 1, X, 11, Y, 11, Z, 9, Z, 9);
        shop.pallet(9);
        shop.plan(1, away);
        Check.due("night", 1, shop.night());
        Check.due("a night without pallets", 0, shop.night());
        Check.refused(shop, Check.ARGUMENT, "no idle minutes", () -> shop.idle(0));
        Check.refused(shop, Check.ARGUMENT, "too many", () -> shop.idle(501));
        Check.due("warmth", 5, shop.warmth());
        Check.due("minute", 5, shop.minute());
    }

    /** "of several the lowest one": the map and the heat, the heat and the wear, the wear and the offset. */
    static void promise25_ofTwoThatAreEqual() {
        ToolCrib shop = warm(4);
        int along = Shop.write(shop, KIND, 0, MODE, 1, X, 3, Z, 8);
        shop.pallet(9);
        shop.plan(1, along);
        shop.night();
        Check.due("heat 4 * 3 / 10, wear 4 / 4", 8002, shop.ofCell(1, 3, 0, SIZE));
        Check.due("heat ahead of wear", 1, shop.ofCell(1, 3, 0, CAUSE));
        shop.map(3, -1);
        shop.pallet(9);
        shop.plan(2, along);
        shop.night();
        Check.due("-1 and 1 and 1", 8001, shop.ofCell(2, 3, 0, SIZE));
        Check.due("the map ahead of both", 0, shop.ofCell(2, 3, 0, CAUSE));
    }

    /** "the greatest part, without its sign": the offset is greater, equal and less, from above and from below. */
    static void promise25_theOffsetAgainstTheWear() {
        int[][] cases = {{2, 1, 2}, {4, 2, 3}, {-2, -1, 2}, {-4, -2, 3}};
        for (int[] each : cases) {
            ToolCrib shop = offsetBy(each[0], each[1]);
            // used once: 4 more minutes for a wear of 1
            int all = Shop.write(shop, KIND, 0, MODE, 1, Z, 8, Y, 5);
            shop.pallet(9);
            shop.plan(1, all);
            shop.night();
            Check.due("wear 0: the offset alone", 3, shop.ofCell(1, 0, 2, CAUSE));
            Check.due("wear 0: the offset alone", 8000 - each[1], shop.ofCell(1, 0, 2, SIZE));
            Check.due("wear 1", 8001 - each[1], shop.ofCell(1, 0, 3, SIZE));
            Check.due("of two that are equal the wear", each[2], shop.ofCell(1, 0, 3, CAUSE));
        }
    }

    static void promise25_theOffsetAgainstTheHeatAndTheMap() {
        ToolCrib shop = offsetBy(2, 1);
        Shop.loaded(shop, 1, 500);
        int warms = Shop.write(shop, KIND, 1, MODE, 1, Z, 8, Y, 3);
        Shop.write(shop, KIND, 0, MODE, 1, X, 2, Z, 8);
        shop.pallet(9);
        shop.plan(1, warms);
        shop.night();
        for (int n = 0; n < 2; n++) {
            shop.pallet(9);
            shop.plan(2 + n, warms + 1);
            shop.map(2, n);
            shop.night();
        }
        Check.due("heat 5 * 2 / 10, less 1", 8000, shop.ofCell(2, 2, 0, SIZE));
        Check.due("the heat ahead of the offset", 1, shop.ofCell(2, 2, 0, CAUSE));
        Check.due("map 1, heat 6 * 2 / 10, less 1", 8001, shop.ofCell(3, 2, 0, SIZE));
        Check.due("the map ahead of both", 0, shop.ofCell(3, 2, 0, CAUSE));
    }

    /** Tool 0, of kind 0, was used once, at x 0 of pallet 0; its offset is so much, as its cut was so far away. */
    private static ToolCrib offsetBy(int error, int offset) {
        ToolCrib shop = new ToolCrib();
        shop.map(0, error);
        Shop.loaded(shop, 0, 500);
        shop.pallet(9);
        shop.plan(0, Shop.write(shop, KIND, 0, MODE, 1, Z, 8));
        shop.night();
        shop.map(0, 0);
        Shop.drawn(shop, 0, 0, 8, 9);
        shop.calibrate(0, 0);
        for (int n = 0; n < 3; n++) {
            shop.judge(0, 0, 0);
        }
        Check.due("its offset", offset, shop.correct(0));
        Check.due("the cause of before is as it was", 0, shop.ofCell(0, 0, 0, CAUSE));
        return shop;
    }

    /** "what: 0 .. 5": each of a tool that was used up, told, corrected and taken out. */
    static void promise24_allOfATool() {
        ToolCrib shop = offsetBy(-50, -25);
        for (int n = 0; n < 5; n++) {
            shop.judge(0, 0, 0);
        }
        int[] want = {0, 500, 1, -25, 1, 5};
        for (int what = 0; what <= 5; what++) {
            Check.due("what " + what, want[what], shop.ofTool(0, what));
        }
        shop.load(0, false);
        Check.due("out", 0, shop.ofTool(0, IS_IN));
        Check.due("told stays", 5, shop.ofTool(0, TOLD));
        Check.due("corrected outside the magazine too", -25, shop.correct(0));
        Check.due("offset", -50, shop.ofTool(0, OFFSET));
        Check.due("told", 0, shop.ofTool(0, TOLD));
        Check.refused(shop, Check.ARGUMENT, "behind the last", () -> shop.ofTool(0, 6));
        Check.refused(shop, Check.ARGUMENT, "ahead of the first", () -> shop.ofTool(0, -1));
    }

    /** A row at y 0 with stock of 2 cut to 1, each cell by a new tool and cold. */
    private static ToolCrib coldRow(int[] errors) {
        ToolCrib shop = new ToolCrib();
        for (int x = 0; x < errors.length; x++) {
            shop.map(x, errors[x]);
        }
        Shop.write(shop, Z, 2);
        shop.pallet(2);
        shop.plan(0, Shop.write(shop, KIND, 0, MODE, 1, CALL, 0, Z, 1, X, 11));
        for (int x = 0; x < 12; x++) {
            int tool = Shop.loaded(shop, 0, 1);
            shop.night();
            shop.load(tool, false);
            shop.idle(1);
        }
        return shop;
    }
}
