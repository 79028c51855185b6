/** Each sentence on what tools are told, and on corrections, that names a bound: Terms and promise 21. */
final class EdgesOfCorrectionsTest {
    private static final int MODE = ToolCrib.MODE, X = ToolCrib.X, Z = ToolCrib.Z, KIND = ToolCrib.KIND;
    private static final int OFFSET = 3, TOLD = 5, AWAY = 5;

    /** Tool 0 cut pallet 0 along y 0, as long as there is neither heat nor wear: x 0 to 3, with these errors. */
    private static ToolCrib cut(int... errors) {
        ToolCrib shop = new ToolCrib();
        for (int x = 0; x < errors.length; x++) {
            shop.map(x, errors[x]);
        }
        Shop.loaded(shop, 0, 500);
        shop.pallet(9);
        shop.plan(0, Shop.write(shop, KIND, 0, MODE, 1, Z, 8, X, errors.length - 1));
        shop.night();
        shop.calibrate(0, 0);
        shop.drawing();
        return shop;
    }

    /** Adds the cells at these x to the drawing, which is judged once then. */
    private static void tell(ToolCrib shop, int drawing, int... xs) {
        for (int x : xs) {
            shop.feature(drawing, x, 0, 8, 99);
        }
        shop.judge(0, drawing, 0);
    }

    /** "if there are so many": none, one and two are too few, three are enough; "otherwise nothing changes". */
    static void promise21_twoAreTooFew() {
        for (int told = 0; told <= 6; told++) {
            ToolCrib shop = cut(20);
            if (told > 0) {
                tell(shop, 0, new int[told]);
            }
            Check.due("told", told, shop.ofTool(0, TOLD));
            Check.due("correct", told < 3 ? 0 : 10, shop.correct(0));
            Check.due("offset", told < 3 ? 0 : 10, shop.ofTool(0, OFFSET));
            Check.due("forgotten or not", told < 3 ? told : 0, shop.ofTool(0, TOLD));
        }
    }

    /** "all that it was told is forgotten": three more are needed then. */
    static void promise21_threeMoreAreNeeded() {
        ToolCrib shop = cut(20);
        tell(shop, 0, 0, 0, 0, 0, 0);
        Check.due("the first", 10, shop.correct(0));
        Check.due("no more", 0, shop.correct(0));
        shop.drawing();
        tell(shop, 1, 0, 0);
        Check.due("two since then", 2, shop.ofTool(0, TOLD));
        Check.due("too few", 0, shop.correct(0));
        shop.drawing();
        tell(shop, 2, 0);
        Check.due("three since then", 10, shop.correct(0));
        Check.due("offset", 20, shop.ofTool(0, OFFSET));
    }

    /** "all are above 0, or all below 0": each way in which three can be above, at and below 0. */
    static void promise21_eachWayOfThree() {
        int[] errors = {-9, 0, 9};
        for (int n = 0; n < 27; n++) {
            ToolCrib shop = cut(errors);
            tell(shop, 0, n % 3, n / 3 % 3, n / 9);
            int due = n == 0 ? -4 : n == 26 ? 4 : 0;
            Check.due("correct", due, shop.correct(0));
            Check.due("offset", due, shop.ofTool(0, OFFSET));
            Check.due("forgotten or not", due == 0 ? 3 : 0, shop.ofTool(0, TOLD));
        }
    }

    /** "the latest 3 of these": whatever it was told ahead of them, of both signs, once to thrice. */
    static void promise21_whatWasToldAheadOfThem() {
        for (int ahead = 1; ahead <= 3; ahead++) {
            for (int x = 0; x <= 1; x++) {
                ToolCrib shop = cut(-20, 0, 12, 40);
                int[] xs = new int[ahead + 3];
                java.util.Arrays.fill(xs, x);
                java.util.Arrays.fill(xs, ahead, ahead + 3, 2);
                tell(shop, 0, xs);
                Check.due("the mean of the latest", 6, shop.correct(0));
                Check.due("all is forgotten", 0, shop.ofTool(0, TOLD));
            }
        }
        ToolCrib shop = cut(-20, 0, 12, 40);
        tell(shop, 0, 2, 2, 2, 0);
        Check.due("the latest is below 0", 0, shop.correct(0));
        shop.drawing();
        tell(shop, 1, 2, 3);
        Check.due("it is still one of them", 0, shop.correct(0));
        shop.drawing();
        tell(shop, 2, 3);
        Check.due("no more: (12 + 40 + 40) / 3 / 2", 15, shop.correct(0));
    }

    /** "their mean, divided by 2", "rounded towards 0" each time: from above and from below. */
    static void promise21_roundedTwice() {
        int[][] errors = {{1, 1, 2}, {2, 2, 1}, {2, 2, 3}, {1, 2, 2}, {4, 4, 3}, {4, 4, 4}, {11, 10, 10}, {12, 12, 11},
            {50, 50, 49}, {50, 50, 50}};
        int[] more = {0, 0, 1, 0, 1, 2, 5, 5, 24, 25};
        for (int n = 0; n < errors.length; n++) {
            for (int sign = -1; sign <= 1; sign += 2) {
                ToolCrib shop = cut(sign * errors[n][0], sign * errors[n][1], sign * errors[n][2]);
                tell(shop, 0, 0, 1, 2);
                Check.due("correct", sign * more[n], shop.correct(0));
                Check.due("offset", sign * more[n], shop.ofTool(0, OFFSET));
                Check.due("forgotten, also if it is as it was", 0, shop.ofTool(0, TOLD));
            }
        }
    }

    /** "and held to 200 then": just below it, to it, beyond it, and back from it. */
    static void promise21_heldFromBothSides() {
        for (int sign = -1; sign <= 1; sign += 2) {
            ToolCrib shop = cut(sign * 40, sign * 2, sign * -30);
            int offset = 0;
            tell(shop, 0, 0, 0, 0);
            for (int n = 0; n < 9; n++) {
                offset += 20;
                Check.due("more", sign * 20, shop.correct(0));
                Check.due("offset", sign * offset, shop.ofTool(0, OFFSET));
                shop.judge(0, 0, 0);
            }
            Check.due("exactly 200", sign * 20, shop.correct(0));
            Check.due("offset", sign * 200, shop.ofTool(0, OFFSET));
            shop.drawing();
            tell(shop, 1, 1, 1, 1);
            Check.due("beyond it by 1", 0, shop.correct(0));
            Check.due("offset", sign * 200, shop.ofTool(0, OFFSET));
            Check.due("forgotten, though as it was", 0, shop.ofTool(0, TOLD));
            shop.drawing();
            tell(shop, 2, 2, 2, 2);
            Check.due("back", sign * -15, shop.correct(0));
            shop.judge(0, 1, 0);
            Check.due("1 more", sign, shop.correct(0));
            shop.judge(0, 0, 0);
            Check.due("14 of 20", sign * 14, shop.correct(0));
            Check.due("held", sign * 200, shop.ofTool(0, OFFSET));
        }
    }

    /** "tells the tool that cut its cell last": a cell that was never cut tells none; one twice drawn tells twice. */
    static void promise21_whoIsTold() {
        ToolCrib shop = cut(20);
        Shop.loaded(shop, 1, 9);
        tell(shop, 0, 0, 1, 0);
        shop.feature(0, 11, 11, 9, 99);
        Check.due("told twice", 2, shop.ofTool(0, TOLD));
        Check.due("the other cut nothing", 0, shop.ofTool(1, TOLD));
        Check.due("the cell that was never cut is on the paper", 1000, shop.ofPaper(0, AWAY + 1));
        shop.judge(0, 0, 0);
        Check.due("told four times", 4, shop.ofTool(0, TOLD));
        Check.due("20 each: 1000 was told to none", 10, shop.correct(0));
        shop.calibrate(1, 0);
        Check.refused(shop, Check.STATE, "a judging that is refused tells none", () -> shop.judge(0, 0, 2));
        Check.refused(shop, Check.INDEX, "a judging that is refused tells none", () -> shop.judge(0, 0, 4));
        Check.due("told", 0, shop.ofTool(0, TOLD));
    }

    /** "the tool that cut its cell last": of two that cut it the one behind, though the other has the lower number. */
    static void promise21_whoCutItLast() {
        ToolCrib shop = new ToolCrib();
        Shop.loaded(shop, 0, 2);
        Shop.loaded(shop, 0, 9);
        shop.pallet(9);
        shop.plan(0, Shop.write(shop, KIND, 0, MODE, 1, Z, 8, X, 2, X, 0, Z, 7));
        shop.night();
        shop.calibrate(0, 0);
        Shop.drawn(shop, 0, 0, 7, 9, 1, 0, 8, 9, 2, 0, 8, 9);
        shop.judge(0, 0, 0);
        Check.due("x 1", 1, shop.ofTool(0, TOLD));
        Check.due("x 0 and x 2", 2, shop.ofTool(1, TOLD));
    }

    /** The last tool that there can be is told and corrected like others, and no other with it. */
    static void promise21_theLastTool() {
        ToolCrib shop = new ToolCrib();
        for (int n = 0; n < 16; n++) {
            shop.tool(n % 4, 500);
        }
        shop.load(15, true);
        shop.map(0, 30);
        shop.pallet(9);
        shop.plan(0, Shop.write(shop, KIND, 3, MODE, 1, Z, 8));
        shop.night();
        shop.calibrate(0, 0);
        Shop.drawn(shop, 0, 0, 8, 1, 0, 0, 8, 1, 0, 0, 8, 1);
        shop.judge(0, 0, 0);
        for (int n = 0; n < 15; n++) {
            Check.due("told nothing", 0, shop.ofTool(n, TOLD));
            Check.due("nothing changes", 0, shop.correct(n));
        }
        Check.due("told", 3, shop.ofTool(15, TOLD));
        Check.due("correct", 15, shop.correct(15));
        Check.due("offset", 15, shop.ofTool(15, OFFSET));
        Check.refused(shop, Check.INDEX, "behind the last", () -> shop.correct(16));
        Check.refused(shop, Check.INDEX, "ahead of the first", () -> shop.correct(-1));
    }

    /** Told as often as can be: 30 papers of 6 features. */
    static void promise24_toldAHundredAndEightyTimes() {
        ToolCrib shop = cut(50);
        for (int n = 0; n < 6; n++) {
            shop.feature(0, 0, 0, 8, 99);
        }
        for (int n = 1; n <= 30; n++) {
            shop.judge(0, 0, 0);
            Check.due("told", 6 * n, shop.ofTool(0, TOLD));
        }
        Check.refused(shop, Check.STATE, "there are 30", () -> shop.judge(0, 0, 0));
        Check.due("told", 180, shop.ofTool(0, TOLD));
        Check.due("correct", 25, shop.correct(0));
        Check.due("forgotten", 0, shop.ofTool(0, TOLD));
    }

    /** "the offset of the tool, taken off": the greatest there is, either way, in what is cut then. */
    static void promise25_theGreatestOffsets() {
        for (int sign = -1; sign <= 1; sign += 2) {
            ToolCrib shop = cut(50 * sign);
            tell(shop, 0, 0, 0, 0);
            for (int n = 0; n < 10; n++) {
                shop.correct(0);
                shop.judge(0, 0, 0);
            }
            Check.due("offset", 200 * sign, shop.ofTool(0, OFFSET));
            shop.pallet(9);
            shop.plan(1, 0);
            shop.night();
            Check.due("size", 8000 + 50 * sign - 200 * sign, shop.ofCell(1, 0, 0, 1));
            Check.due("cause", 3, shop.ofCell(1, 0, 0, 3));
            Check.due("cut before it", 8000 + 50 * sign, shop.ofCell(0, 0, 0, 1));
            Check.due("its cause", 0, shop.ofCell(0, 0, 0, 3));
        }
    }
}
