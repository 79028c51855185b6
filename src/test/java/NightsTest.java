/** Promises 12 to 15, 22 and 23: nights, what is known at dusk, idle minutes. */
final class NightsTest {
    private static final int MODE = ToolCrib.MODE, MEASURE = ToolCrib.MEASURE, X = ToolCrib.X, Y = ToolCrib.Y,
            Z = ToolCrib.Z, KIND = ToolCrib.KIND, CALL = ToolCrib.CALL;

    /** Program 0 cuts 4 minutes by kind 0, then 3 by kind 1. */
    private static ToolCrib twoKinds(int pallets) {
        ToolCrib shop = new ToolCrib();
        Shop.write(shop, KIND, 0, MODE, 1, Z, 5, X, 3, Z, 9, KIND, 1, Y, 1, Z, 4, X, 2);
        for (int n = 0; n < pallets; n++) {
            shop.pallet(6);
            shop.plan(n, 0);
        }
        return shop;
    }

    static void promise12_allInANight() {
        ToolCrib shop = twoKinds(2);
        Shop.loaded(shop, 1, 500);
        Shop.loaded(shop, 0, 500);
        Check.due("7 minutes", 7, shop.takes(0, 0));
        Check.due("foresees", 2, shop.foresees());
        Check.due("night", 2, shop.night());
        Check.due("minute", 14, shop.minute());
        Check.due("warmth", 14, shop.warmth());
        Check.due("kind 1", 6, shop.ofTool(0, 2));
        Check.due("kind 0", 8, shop.ofTool(1, 2));
        Check.due("no more", 0, shop.night());
        Check.due("minute", 14, shop.minute());
    }

    static void promise12_sixPalletsInANight() {
        ToolCrib shop = twoKinds(6);
        Shop.loaded(shop, 0, 24);
        Shop.loaded(shop, 1, 18);
        Check.due("foresees", 6, shop.foresees());
        Check.due("lacks", 0, shop.lacks(0));
        Check.due("lacks", 0, shop.lacks(1));
        Check.due("night", 6, shop.night());
        Check.due("minute", 42, shop.minute());
    }

    static void promise12_endsAheadOfTheStep() {
        ToolCrib shop = twoKinds(3);
        Shop.loaded(shop, 0, 500);
        Shop.loaded(shop, 1, 4);
        Check.due("foresees", 1, shop.foresees());
        Check.due("lacks of kind 1", 5, shop.lacks(1));
        Check.due("night", 1, shop.night());
        Check.due("minute", 7 + 5, shop.minute());
        Check.due("the second is the first", 0, shop.ofPallet(1, 2));
        Check.due("the third was not begun", 0, shop.ofPallet(2, 1));
        Check.due("up, along y, down to 5, a cut by kind 1", 4 + 3 + 4 + 1 + 4, shop.ofPallet(1, 1));
        Check.due("cut by kind 1", 5, shop.ofCell(1, 3, 1, 0));
        Check.due("not yet", 6, shop.ofCell(1, 2, 1, 0));
        Check.due("lacks then", 5, shop.lacks(1));
        Check.due("and of kind 0 nothing", 0, shop.lacks(0));
        Check.due("nothing without tools", 0, shop.night());
        Check.due("minute", 12, shop.minute());
    }

    static void promise12_sistersInTheMidstOfAPart() {
        ToolCrib shop = new ToolCrib();
        Shop.write(shop, KIND, 2, MODE, 1, Z, 8, X, 9);
        shop.pallet(9);
        shop.plan(0, 0);
        shop.tool(2, 3);
        Shop.loaded(shop, 1, 50);
        Shop.loaded(shop, 2, 2);
        Shop.loaded(shop, 2, 4);
        shop.load(0, true);
        Check.due("foresees", 0, shop.foresees());
        Check.due("lacks one", 1, shop.lacks(2));
        Check.due("night", 0, shop.night());
        int[] cutters = {0, 0, 0, 2, 2, 3, 3, 3, 3, ToolCrib.NONE};
        for (int x = 0; x <= 9; x++) {
            Check.due("who cut " + x, cutters[x], shop.ofCell(0, x, 0, 2));
        }
        Check.due("no other kind", 0, shop.ofTool(1, 2));
        Check.due("a whole life", 3, shop.ofTool(0, 2));
        Check.due("wear begins anew with a sister", 8000 + 6 * 6 / 10 + 1 / 4, shop.ofCell(0, 6, 0, 1));
        shop.load(2, false);
        shop.tool(2, 1);
        shop.load(4, true);
        Check.due("foresees", 1, shop.foresees());
        Check.due("the next night", 1, shop.night());
        Check.due("who cut the last", 4, shop.ofCell(0, 9, 0, 2));
        Check.due("what was cut stays so", 0, shop.ofCell(0, 1, 0, 2));
    }

    static void promise12_onlyToolsInTheMagazine() {
        ToolCrib shop = twoKinds(1);
        shop.tool(0, 100);
        Shop.loaded(shop, 0, 100);
        Shop.loaded(shop, 1, 100);
        Check.due("night", 1, shop.night());
        Check.due("out of the magazine", 0, shop.ofTool(0, 2));
        Check.due("in it", 4, shop.ofTool(1, 2));
    }

    static void promise12_modesStaySetOverTheDay() {
        ToolCrib shop = new ToolCrib();
        Shop.write(shop, MEASURE, 1, X, 1, Z, -3, Z, 3);
        Shop.write(shop, KIND, 3, MODE, 1, CALL, 0, CALL, 0, CALL, 0, X, 1);
        shop.pallet(8);
        shop.clamp(0, 4, 0, 9);
        shop.plan(0, 1);
        for (int night = 0; night < 6; night++) {
            Check.due("lacks", 6 - night, shop.lacks(3));
            int tool = Shop.loaded(shop, 3, 1);
            Check.due("foresees", night == 5 ? 1 : 0, shop.foresees());
            Check.due("night " + night, night == 5 ? 1 : 0, shop.night());
            shop.load(tool, false);
            int x = 1 + night / 2;
            Check.due("cut", 7 - night % 2, shop.ofCell(0, x, 0, 0));
            Check.due("by", night, shop.ofCell(0, x, 0, 2));
        }
        Check.due("over the clamp at its height", 3 * 7 + 1, shop.ofPallet(0, 1));
    }

    static void promise12_stepsWithoutCutsNeedNoTool() {
        ToolCrib shop = new ToolCrib();
        Shop.write(shop, KIND, 3, MODE, 1, Z, 4, X, 11);
        shop.pallet(4);
        shop.pallet(4);
        shop.plan(1, 0);
        shop.plan(0, 0);
        Check.due("lacks", 0, shop.lacks(3));
        Check.due("foresees", 2, shop.foresees());
        Check.due("night", 2, shop.night());
        Check.due("minute", 0, shop.minute());
        Check.due("steps", 16, shop.ofPallet(0, 1));
    }

    static void promise13_foreseesChangesNothing() {
        ToolCrib shop = twoKinds(3);
        Shop.loaded(shop, 0, 9);
        Shop.loaded(shop, 1, 7);
        for (int n = 0; n < 3; n++) {
            Check.due("foresees", 2, shop.foresees());
            Check.due("lacks of kind 0", 3, shop.lacks(0));
            Check.due("lacks of kind 1", 2, shop.lacks(1));
        }
        Check.due("minute", 0, shop.minute());
        Check.due("used", 0, shop.ofTool(0, 2));
        Check.due("as was foreseen", 2, shop.night());
    }

    static void promise13_oneThatStopsHoldsTheOthersUp() {
        ToolCrib shop = new ToolCrib();
        Shop.write(shop, KIND, 0, MODE, 1, Z, 8);
        Shop.write(shop, KIND, 1, MODE, 1, Z, 8);
        for (int n = 0; n < 3; n++) {
            shop.pallet(9);
            shop.plan(n, n == 1 ? 0 : 1);
        }
        Shop.loaded(shop, 1, 9);
        Check.due("foresees", 1, shop.foresees());
        Check.due("lacks", 1, shop.lacks(0));
        Check.due("lacks nothing", 0, shop.lacks(1));
        Check.due("night", 1, shop.night());
        Check.due("the third waits", ToolCrib.PLANNED, shop.ofPallet(2, 0));
        Check.due("foresees", 0, shop.foresees());
        Check.due("night", 0, shop.night());
        Shop.loaded(shop, 0, 1);
        Check.due("foresees", 2, shop.foresees());
        Check.due("night", 2, shop.night());
    }

    static void promise14_lacks() {
        ToolCrib shop = twoKinds(2);
        Check.due("kind 0", 8, shop.lacks(0));
        Check.due("kind 1", 6, shop.lacks(1));
        Check.due("kind 2", 0, shop.lacks(2));
        int tool = Shop.loaded(shop, 0, 5);
        Check.due("kind 0", 3, shop.lacks(0));
        shop.tool(0, 100);
        Check.due("not in the magazine", 3, shop.lacks(0));
        shop.load(1, true);
        Check.due("at least 0", 0, shop.lacks(0));
        shop.load(1, false);
        shop.night();
        Check.due("4 were cut, 1 is left", 3, shop.lacks(0));
        shop.load(tool, false);
        Check.due("the life left counts, not the life", 4, shop.lacks(0));
        for (int kind : new int[] {-1, 4, Integer.MIN_VALUE, Integer.MAX_VALUE}) {
            Check.refused(shop, Check.ARGUMENT, "kind " + kind, () -> shop.lacks(kind));
        }
    }

    static void promise15_idle() {
        ToolCrib shop = new ToolCrib();
        Check.due("idle", 1, shop.idle(1));
        Check.due("idle", 501, shop.idle(500));
        Check.due("minute", 501, shop.minute());
        for (int minutes : new int[] {-1, 0, 501, Integer.MIN_VALUE, Integer.MAX_VALUE}) {
            Check.refused(shop, Check.ARGUMENT, "idle " + minutes, () -> shop.idle(minutes));
        }
        Check.due("warmth", 0, shop.warmth());
    }

    static void promise15_theLastMinute() {
        // more calls than an object is used for, but the bound is told
        ToolCrib shop = new ToolCrib();
        for (int n = 0; n < 1999; n++) {
            shop.idle(500);
        }
        shop.idle(499);
        Check.refused(shop, Check.STATE, "above 1000000", () -> shop.idle(2));
        Check.refused(shop, Check.ARGUMENT, "the argument first", () -> shop.idle(0));
        Check.due("1000000 itself", 1000000, shop.idle(1));
        Check.refused(shop, Check.STATE, "above 1000000", () -> shop.idle(1));
    }

    static void promise22_minuteIsCutAndIdle() {
        ToolCrib shop = twoKinds(1);
        Shop.loaded(shop, 0, 100);
        Shop.loaded(shop, 1, 100);
        shop.idle(10);
        shop.night();
        Check.due("minute", 17, shop.minute());
        Check.due("idle", 20, shop.idle(3));
    }

    static void promise23_warmth() {
        ToolCrib shop = new ToolCrib();
        // each call goes down one height and cuts 12 cells of a row, there and back
        Shop.write(shop, KIND, 0, MODE, 1, Z, 8, X, 11, Z, 7, X, 0, Z, 6, X, 11, Z, 5, X, 0, Z, 4, X, 11, Z, 3, X, 0,
                Z, 2, X, 11, Z, 1, X, 0, Z, 0, X, 11);
        shop.pallet(9);
        shop.plan(0, 0);
        Shop.loaded(shop, 0, 98);
        Check.due("108 minutes", 108, shop.takes(0, 0));
        shop.night();
        Check.due("98", 98, shop.warmth());
        shop.idle(1);
        Check.due("1 less", 97, shop.warmth());
        Shop.loaded(shop, 0, 2);
        shop.night();
        Check.due("99", 99, shop.warmth());
        Shop.loaded(shop, 0, 50);
        shop.night();
        Check.due("at most 99", 99, shop.warmth());
        Check.due("minute", 109, shop.minute());
        shop.idle(98);
        Check.due("1", 1, shop.warmth());
        shop.idle(1);
        Check.due("0", 0, shop.warmth());
        shop.idle(1);
        Check.due("at least 0", 0, shop.warmth());
    }

    static void promise23_heatAtNinetyNine() {
        ToolCrib shop = new ToolCrib();
        Shop.write(shop, KIND, 0, MODE, 1, Z, 8, X, 11, Z, 7, X, 0, Z, 6, X, 11, Z, 5, X, 0, Z, 4, X, 11, Z, 3, X, 0,
                Z, 2, X, 11, Z, 1, X, 0, Z, 0, X, 11);
        shop.pallet(9);
        shop.plan(0, 0);
        Shop.loaded(shop, 0, 500);
        shop.night();
        Check.due("heat 99 * 11 / 10, wear 107 / 4", 108 + 26, shop.ofCell(0, 11, 0, 1));
        Check.due("heat 99 * 7 / 10, wear 103 / 4", 69 + 25, shop.ofCell(0, 7, 0, 1));
        Check.due("warmth 98: heat 98 * 2 / 10, wear 98 / 4", 19 + 24, shop.ofCell(0, 2, 0, 1));
        Check.due("the greater", 2, shop.ofCell(0, 2, 0, 3));
    }
}
