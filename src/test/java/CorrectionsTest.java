/** Promise 21, and what a tool is told (24) and the offset as a cause (25). */
final class CorrectionsTest {
    private static final int NONE = ToolCrib.NONE;

    /** Pallet 0 was cut at x 0 by tool 0, with an error of so much; its drawing 0 has that one feature. */
    private static ToolCrib away(int error) {
        ToolCrib shop = new ToolCrib();
        shop.map(0, error);
        Shop.loaded(shop, 0, 500);
        Shop.write(shop, ToolCrib.KIND, 0, ToolCrib.MODE, 1, ToolCrib.Z, 8);
        shop.pallet(9);
        shop.plan(0, 0);
        shop.night();
        Shop.drawn(shop, 0, 0, 8, 50);
        shop.calibrate(0, 0);
        return shop;
    }

    private static void tell(ToolCrib shop, int times) {
        for (int n = 0; n < times; n++) {
            shop.judge(0, 0, 0);
        }
    }

    static void promise21_threeAreNeeded() {
        ToolCrib shop = away(13);
        Check.due("told nothing", 0, shop.correct(0));
        tell(shop, 1);
        Check.due("told once", 1, shop.ofTool(0, 5));
        Check.due("told once", 0, shop.correct(0));
        tell(shop, 1);
        Check.due("told twice", 0, shop.correct(0));
        Check.due("and nothing is forgotten", 2, shop.ofTool(0, 5));
        tell(shop, 1);
        Check.due("13 / 2", 6, shop.correct(0));
        Check.due("offset", 6, shop.ofTool(0, 3));
        Check.due("forgotten", 0, shop.ofTool(0, 5));
        Check.due("nothing to look at", 0, shop.correct(0));
        Check.due("offset", 6, shop.ofTool(0, 3));
        tell(shop, 2);
        Check.due("those of before do not count", 0, shop.correct(0));
        tell(shop, 1);
        Check.due("again", 6, shop.correct(0));
        Check.due("offset", 12, shop.ofTool(0, 3));
    }

    static void promise21_roundedTowardsNought() {
        int[] errors = {1, 2, 3, -1, -2, -3, -13, 50, -50};
        int[] more = {0, 1, 1, 0, -1, -1, -6, 25, -25};
        for (int n = 0; n < errors.length; n++) {
            ToolCrib shop = away(errors[n]);
            tell(shop, 3);
            Check.due("away " + errors[n], more[n], shop.correct(0));
            Check.due("offset", more[n], shop.ofTool(0, 3));
            Check.due("forgotten, also if it is as it was", 0, shop.ofTool(0, 5));
        }
    }

    static void promise21_theMeanIsOfTheLatestThree() {
        // away by x at the features: 0, 7, 8 and 9 at x 0 to 3
        ToolCrib shop = row(0, 7, 8, 10);
        drawn(shop, 3, 2, 1, 0);
        shop.judge(0, 0, 0);
        Check.due("told four times", 4, shop.ofTool(0, 5));
        Check.due("one is 0", 0, shop.correct(0));
        drawn(shop, 0, 3, 2, 1);
        shop.judge(0, 1, 0);
        Check.due("told", 8, shop.ofTool(0, 5));
        Check.due("25 / 3 / 2", 4, shop.correct(0));
        Check.due("forgotten", 0, shop.ofTool(0, 5));
    }

    static void promise21_noiseIsNotChased() {
        ToolCrib shop = row(-4, 40, 40, 0);
        drawn(shop, 1, 2, 0);
        drawn(shop, 1, 1, 3);
        drawn(shop, 2, 2, 2);
        shop.judge(0, 0, 0);
        Check.due("above, above, below", 0, shop.correct(0));
        Check.due("nothing is forgotten", 3, shop.ofTool(0, 5));
        shop.judge(0, 1, 0);
        Check.due("above, above, 0", 0, shop.correct(0));
        Check.due("nothing is forgotten", 6, shop.ofTool(0, 5));
        shop.judge(0, 2, 0);
        Check.due("three above", 20, shop.correct(0));
    }

    static void promise21_noiseBelowIsNotChasedEither() {
        ToolCrib shop = row(-40, -40, 0, 0);
        drawn(shop, 0, 1, 2);
        drawn(shop, 0, 1, 1);
        shop.judge(0, 0, 0);
        Check.due("below, below, 0", 0, shop.correct(0));
        Check.due("nothing is forgotten", 3, shop.ofTool(0, 5));
        shop.judge(0, 1, 0);
        Check.due("three below", -20, shop.correct(0));
    }

    static void promise21_heldTo200() {
        ToolCrib shop = new ToolCrib();
        Shop.loaded(shop, 0, 500);
        Shop.doneUncut(shop, 1);
        Shop.write(shop, ToolCrib.KIND, 0, ToolCrib.MODE, 1, ToolCrib.Z, 1);
        int part = shop.pallet(2);
        shop.plan(part, 1);
        shop.night();
        Shop.drawn(shop, 0, 0, 0, 1, 0, 0, 0, 1, 0, 0, 0, 1);
        Shop.drawn(shop, 0, 0, 9, 1, 0, 0, 9, 1, 0, 0, 9, 1);
        Shop.drawn(shop, 0, 0, 1, 1, 0, 0, 1, 1, 0, 0, 1, 1);
        shop.calibrate(0, 0);
        corrected(shop, part, 0, 200, 200);
        corrected(shop, part, 0, 0, 200);
        corrected(shop, part, 1, -400, -200);
        corrected(shop, part, 1, 0, -200);
        corrected(shop, part, 0, 400, 200);
        shop.idle(500);
        corrected(shop, part, 2, 0, 200);
    }

    private static void corrected(ToolCrib shop, int part, int drawing, int more, int offset) {
        shop.judge(part, drawing, 0);
        Check.due("told", 3, shop.ofTool(0, 5));
        Check.due("by drawing " + drawing, more, shop.correct(0));
        Check.due("offset", offset, shop.ofTool(0, 3));
        Check.due("forgotten", 0, shop.ofTool(0, 5));
    }

    static void promise21_eachToolIsToldOfItsCells() {
        ToolCrib shop = new ToolCrib();
        Shop.loaded(shop, 0, 2);
        Shop.loaded(shop, 0, 9);
        shop.map(0, 10);
        shop.map(1, 20);
        shop.map(2, 30);
        Shop.write(shop, ToolCrib.KIND, 0, ToolCrib.MODE, 1, ToolCrib.Z, 8, ToolCrib.X, 2);
        shop.pallet(9);
        shop.plan(0, 0);
        shop.night();
        Shop.drawn(shop, 0, 0, 8, 9, 1, 0, 8, 9, 2, 0, 8, 9, 3, 0, 9, 9);
        shop.calibrate(0, 0);
        shop.judge(0, 0, 0);
        Check.due("tool 0 cut two cells", 2, shop.ofTool(0, 5));
        Check.due("tool 1 cut one cell", 1, shop.ofTool(1, 5));
        shop.judge(0, 0, 0);
        shop.judge(0, 0, 0);
        Check.due("10, 20, 10, 20, 10, 20: 50 / 3 / 2", 8, shop.correct(0));
        Check.due("the other is as it was", 0, shop.ofTool(1, 3));
        Check.due("30 / 2", 15, shop.correct(1));
    }

    static void promise21_driftIsToldToo() {
        ToolCrib shop = away(0);
        shop.idle(400);
        tell(shop, 3);
        Check.due("4 / 2", 2, shop.correct(0));
    }

    static void promise21_noSuchTool() {
        ToolCrib shop = away(10);
        for (int n : new int[] {-1, 1, Integer.MIN_VALUE, Integer.MAX_VALUE}) {
            Check.refused(shop, Check.INDEX, "tool " + n, () -> shop.correct(n));
        }
    }

    static void promise25_theOffsetIsTakenOff() {
        ToolCrib shop = away(13);
        tell(shop, 3);
        shop.correct(0);
        Check.due("what was cut stays so", 8013, shop.ofCell(0, 0, 0, 1));
        shop.pallet(9);
        shop.plan(1, 0);
        shop.night();
        Check.due("13 - 6", 8007, shop.ofCell(1, 0, 0, 1));
        Check.due("the map is greater", 0, shop.ofCell(1, 0, 0, 3));
        shop.map(0, 6);
        shop.pallet(9);
        shop.plan(2, 0);
        shop.night();
        Check.due("6 - 6", 8000, shop.ofCell(2, 0, 0, 1));
        Check.due("of two the lower", 0, shop.ofCell(2, 0, 0, 3));
        shop.map(0, -5);
        shop.pallet(9);
        shop.plan(3, 0);
        shop.night();
        Check.due("-5 - 6", 7989, shop.ofCell(3, 0, 0, 1));
        Check.due("the offset", 3, shop.ofCell(3, 0, 0, 3));
        tell(shop, 3);
        shop.correct(0);
        Check.due("the offset of then", 3, shop.ofCell(3, 0, 0, 3));
        Check.due("the cause of then", 0, shop.ofCell(2, 0, 0, 3));
        Check.due("not cut", NONE, shop.ofCell(3, 1, 0, 3));
    }

    /** Pallet 0 was cut along y 0 by tool 0, cold and without wear, with these errors of the map. */
    private static ToolCrib row(int... errors) {
        ToolCrib shop = new ToolCrib();
        for (int x = 0; x < errors.length; x++) {
            shop.map(x, errors[x]);
        }
        Shop.loaded(shop, 0, 500);
        Shop.write(shop, ToolCrib.KIND, 0, ToolCrib.MODE, 1, ToolCrib.Z, 8, ToolCrib.X, errors.length - 1);
        shop.pallet(9);
        shop.plan(0, 0);
        shop.night();
        for (int x = 0; x < errors.length; x++) {
            Check.due("size at " + x, 8000 + errors[x], shop.ofCell(0, x, 0, 1));
        }
        shop.calibrate(0, 0);
        return shop;
    }

    private static void drawn(ToolCrib shop, int... xs) {
        int drawing = shop.drawing();
        for (int x : xs) {
            shop.feature(drawing, x, 0, 8, 99);
        }
    }
}
