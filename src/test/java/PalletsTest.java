/** Promises 7, 8, 11, 25 and 26: pallets, clamps, the queue, and what is asked of cells. */
final class PalletsTest {
    private static final int MODE = ToolCrib.MODE, MEASURE = ToolCrib.MEASURE, X = ToolCrib.X, Y = ToolCrib.Y,
            Z = ToolCrib.Z, KIND = ToolCrib.KIND, NONE = ToolCrib.NONE;
    private static final int[] NO_NUMBERS = {-1, 12, Integer.MIN_VALUE, Integer.MAX_VALUE};

    static void promise07_sixPallets() {
        ToolCrib shop = new ToolCrib();
        for (int stock : new int[] {-1, 0, 10, Integer.MIN_VALUE, Integer.MAX_VALUE}) {
            Check.refused(shop, Check.ARGUMENT, "stock " + stock, () -> shop.pallet(stock));
        }
        int[] stocks = {1, 9, 5, 2, 8, 3};
        for (int n = 0; n < 6; n++) {
            Check.due("pallet", n, shop.pallet(stocks[n]));
        }
        Check.refused(shop, Check.STATE, "a seventh", () -> shop.pallet(1));
        Check.refused(shop, Check.ARGUMENT, "the argument first", () -> shop.pallet(0));
        for (int n = 0; n < 6; n++) {
            isRaw(shop, n, stocks[n]);
        }
    }

    private static void isRaw(ToolCrib shop, int pallet, int stock) {
        Check.due("RAW", ToolCrib.RAW, shop.ofPallet(pallet, 0));
        Check.due("no steps", 0, shop.ofPallet(pallet, 1));
        Check.due("not in the queue", NONE, shop.ofPallet(pallet, 2));
        Check.due("not judged", NONE, shop.ofPallet(pallet, 3));
        for (int cell = 0; cell < 144; cell++) {
            int x = cell % 12;
            int y = cell / 12;
            Check.due("height", stock, shop.ofCell(pallet, x, y, 0));
            Check.due("size", 1000 * stock, shop.ofCell(pallet, x, y, 1));
            Check.due("tool", NONE, shop.ofCell(pallet, x, y, 2));
            Check.due("cause", NONE, shop.ofCell(pallet, x, y, 3));
            Check.due("clamp", 0, shop.ofCell(pallet, x, y, 4));
        }
    }

    static void promise08_threeClamps() {
        ToolCrib shop = new ToolCrib();
        shop.pallet(3);
        shop.pallet(3);
        Check.due("a clamp", 1, shop.clamp(0, 0, 0, 1));
        Check.refused(shop, Check.STATE, "the cell has one", () -> shop.clamp(0, 0, 0, 2));
        Check.due("a second", 2, shop.clamp(0, 11, 11, 9));
        Check.due("a third", 3, shop.clamp(0, 1, 0, 4));
        Check.refused(shop, Check.STATE, "a fourth", () -> shop.clamp(0, 0, 1, 4));
        Check.due("another pallet has its own", 1, shop.clamp(1, 0, 0, 7));
        Check.due("its height", 1, shop.ofCell(0, 0, 0, 4));
        Check.due("its height", 9, shop.ofCell(0, 11, 11, 4));
        Check.due("its height", 4, shop.ofCell(0, 1, 0, 4));
        Check.due("x is not y", 0, shop.ofCell(0, 0, 1, 4));
        Check.due("its height", 7, shop.ofCell(1, 0, 0, 4));
        Check.due("the stock is as it was", 3, shop.ofCell(0, 11, 11, 0));
    }

    static void promise08_wrongClamps() {
        ToolCrib shop = new ToolCrib();
        int done = Shop.doneUncut(shop, 3);
        shop.pallet(4);
        for (int n : NO_NUMBERS) {
            Check.refused(shop, Check.INDEX, "pallet " + n, () -> shop.clamp(n, 0, 0, 0));
            Check.refused(shop, Check.INDEX, "x " + n, () -> shop.clamp(1, n, 0, 0));
            Check.refused(shop, Check.INDEX, "y " + n, () -> shop.clamp(1, 0, n, 0));
        }
        for (int height : new int[] {-1, 0, 10, Integer.MIN_VALUE, Integer.MAX_VALUE}) {
            Check.refused(shop, Check.ARGUMENT, "height " + height, () -> shop.clamp(1, 0, 0, height));
            Check.refused(shop, Check.ARGUMENT, "the height first", () -> shop.clamp(done, 0, 0, height));
        }
        Check.refused(shop, Check.STATE, "DONE", () -> shop.clamp(done, 0, 0, 1));
        shop.clamp(1, 3, 3, 3);
        Shop.write(shop, KIND, 0, MODE, 1, Z, 3);
        shop.plan(1, 1);
        Check.refused(shop, Check.STATE, "PLANNED", () -> shop.clamp(1, 0, 0, 1));
        shop.night();
        Check.refused(shop, Check.STATE, "still PLANNED", () -> shop.clamp(1, 0, 0, 1));
    }

    static void promise11_queue() {
        ToolCrib shop = new ToolCrib();
        Shop.write(shop, KIND, 0, MODE, 1, Z, 3);
        for (int n = 0; n < 6; n++) {
            shop.pallet(4);
        }
        int[] order = {3, 0, 5, 1, 2, 4};
        for (int n = 0; n < 6; n++) {
            Check.due("plan", n + 1, shop.plan(order[n], 0));
        }
        for (int n = 0; n < 6; n++) {
            Check.due("its place", n, shop.ofPallet(order[n], 2));
            Check.due("PLANNED", ToolCrib.PLANNED, shop.ofPallet(order[n], 0));
        }
        Shop.loaded(shop, 0, 2);
        Check.due("two of them", 2, shop.night());
        Check.due("the third is the first", 0, shop.ofPallet(5, 2));
        Check.due("the last is the fourth", 3, shop.ofPallet(4, 2));
        Check.due("no more in the queue", NONE, shop.ofPallet(3, 2));
        Check.due("DONE", ToolCrib.DONE, shop.ofPallet(0, 0));
    }

    static void promise11_wrongPlans() {
        ToolCrib shop = new ToolCrib();
        Shop.write(shop, Z, 3);
        Shop.write(shop, Z, 4);
        shop.pallet(4);
        for (int n : NO_NUMBERS) {
            Check.refused(shop, Check.INDEX, "pallet " + n, () -> shop.plan(n, 0));
            Check.refused(shop, Check.INDEX, "program " + n, () -> shop.plan(0, n));
        }
        Check.refused(shop, Check.STATE, "it crashes", () -> shop.plan(0, 0));
        Check.due("one that does not", 1, shop.plan(0, 1));
        Check.refused(shop, Check.STATE, "PLANNED", () -> shop.plan(0, 1));
        Check.refused(shop, Check.INDEX, "the program first", () -> shop.plan(0, 2));
        shop.night();
        Check.refused(shop, Check.STATE, "DONE", () -> shop.plan(0, 1));
    }

    static void promise25_whatOfACell() {
        ToolCrib shop = new ToolCrib();
        shop.pallet(4);
        for (int n : NO_NUMBERS) {
            Check.refused(shop, Check.INDEX, "pallet " + n, () -> shop.ofCell(n, 0, 0, 9));
            Check.refused(shop, Check.INDEX, "x " + n, () -> shop.ofCell(0, n, 0, 9));
            Check.refused(shop, Check.INDEX, "y " + n, () -> shop.ofCell(0, 0, n, 9));
        }
        for (int what : new int[] {-1, 5, Integer.MIN_VALUE, Integer.MAX_VALUE}) {
            Check.refused(shop, Check.ARGUMENT, "what " + what, () -> shop.ofCell(0, 0, 0, what));
        }
    }

    static void promise25_partsOfTheError() {
        ToolCrib shop = new ToolCrib();
        Shop.loaded(shop, 1, 100);
        shop.map(3, 2);
        shop.map(4, -3);
        shop.map(6, -1);
        Shop.write(shop, KIND, 1, MODE, 1, Z, 1, X, 6);
        shop.pallet(2);
        shop.plan(0, 0);
        shop.night();
        // at x the warmth and the minutes used are both x: heat x * x / 10, wear x / 4
        int[] sizes = {1000, 1000, 1000, 1002, 999, 1003, 1003};
        int[] causes = {NONE, NONE, NONE, 0, 0, 1, 1};
        for (int x = 0; x <= 6; x++) {
            Check.due("size at " + x, sizes[x], shop.ofCell(0, x, 0, 1));
            Check.due("cause at " + x, causes[x], shop.ofCell(0, x, 0, 3));
            Check.due("tool at " + x, 0, shop.ofCell(0, x, 0, 2));
            Check.due("height at " + x, 1, shop.ofCell(0, x, 0, 0));
        }
        Check.due("not cut", NONE, shop.ofCell(0, 7, 0, 2));
        Check.due("not cut", 2000, shop.ofCell(0, 7, 0, 1));
        shop.map(3, 40);
        shop.idle(5);
        Check.due("as it was cut", 1002, shop.ofCell(0, 3, 0, 1));
    }

    static void promise25_ofSeveralCausesTheLowest() {
        ToolCrib shop = new ToolCrib();
        Shop.loaded(shop, 1, 100);
        Shop.write(shop, KIND, 1, MODE, 1, Z, 1, X, 9);
        shop.pallet(2);
        shop.map(4, 1); // heat 1, wear 1
        shop.map(7, -4); // heat 4, wear 1
        shop.map(8, 5); // heat 6
        shop.plan(0, 0);
        shop.night();
        Check.due("all three 1", 0, shop.ofCell(0, 4, 0, 3));
        Check.due("the sign does not matter", 0, shop.ofCell(0, 7, 0, 3));
        Check.due("its size", 1000 - 4 + 4 + 1, shop.ofCell(0, 7, 0, 1));
        Check.due("heat", 1, shop.ofCell(0, 8, 0, 3));
    }

    static void promise25_wearIsACause() {
        ToolCrib shop = new ToolCrib();
        Shop.loaded(shop, 0, 100);
        Shop.write(shop, KIND, 0, MODE, 1, Y, 11, Z, 5);
        shop.pallet(9);
        shop.plan(0, 0);
        shop.night();
        Check.due("used 3 ahead of it", 5000, shop.ofCell(0, 0, 11, 1));
        Check.due("wear 0", NONE, shop.ofCell(0, 0, 11, 3));
        shop.program();
        Shop.append(shop, 1, KIND, 0, MODE, 1, Z, 8, Y, 2);
        shop.pallet(9);
        shop.plan(1, 1);
        shop.night();
        Check.due("used 4 ahead of it", 8001, shop.ofCell(1, 0, 0, 1));
        Check.due("wear", 2, shop.ofCell(1, 0, 0, 3));
        Check.due("used 5 ahead of it", 8001, shop.ofCell(1, 0, 1, 1));
    }

    static void promise25_cutAgain() {
        ToolCrib shop = new ToolCrib();
        Shop.loaded(shop, 0, 3);
        Shop.loaded(shop, 0, 100);
        shop.map(2, 9);
        Shop.write(shop, KIND, 0, MODE, 1, X, 2, Z, 5);
        shop.pallet(9);
        shop.plan(0, 0);
        shop.night();
        Check.due("the tool that cut it last", 1, shop.ofCell(0, 2, 0, 2));
        Check.due("the height of the last cut", 5, shop.ofCell(0, 2, 0, 0));
        Check.due("the size of the last cut", 5009, shop.ofCell(0, 2, 0, 1));
    }

    static void promise26_whatOfAPallet() {
        ToolCrib shop = new ToolCrib();
        shop.pallet(4);
        for (int what : new int[] {-1, 4, Integer.MIN_VALUE, Integer.MAX_VALUE}) {
            Check.refused(shop, Check.ARGUMENT, "what " + what, () -> shop.ofPallet(0, what));
            Check.refused(shop, Check.INDEX, "the pallet first", () -> shop.ofPallet(1, what));
        }
        Check.refused(shop, Check.INDEX, "pallet -1", () -> shop.ofPallet(-1, 0));
    }

    static void promise26_steps() {
        ToolCrib shop = new ToolCrib();
        Shop.loaded(shop, 0, 1);
        Shop.write(shop, KIND, 0, MODE, 1, MEASURE, 1, Z, -6, X, 3, Y, 2, Z, 6);
        shop.pallet(4);
        shop.plan(0, 0);
        Check.due("no steps yet", 0, shop.ofPallet(0, 1));
        shop.night();
        Check.due("6 down, one of them a cut", 6, shop.ofPallet(0, 1));
        Shop.loaded(shop, 0, 4);
        shop.night();
        Check.due("3 along x, 1 along y", 10, shop.ofPallet(0, 1));
        Shop.loaded(shop, 0, 4);
        shop.night();
        Check.due("all", 17, shop.ofPallet(0, 1));
        Check.due("DONE", ToolCrib.DONE, shop.ofPallet(0, 0));
    }
}
