/** Promises 4, 5, 6 and 24: the map, tools, and the magazine. */
final class ToolsTest {
    static void promise04_map() {
        ToolCrib shop = new ToolCrib();
        for (int x = 0; x < 12; x++) {
            Check.due("at first", 0, shop.map(x, 50 - x));
        }
        for (int x = 0; x < 12; x++) {
            Check.due("each x has its own", 50 - x, shop.map(x, -50));
        }
        Check.due("the latest", -50, shop.map(11, 0));
        for (int x : new int[] {-1, 12, Integer.MIN_VALUE, Integer.MAX_VALUE}) {
            Check.refused(shop, Check.ARGUMENT, "map at " + x, () -> shop.map(x, 0));
        }
        for (int error : new int[] {-51, 51, Integer.MIN_VALUE, Integer.MAX_VALUE}) {
            Check.refused(shop, Check.ARGUMENT, "an error of " + error, () -> shop.map(3, error));
        }
        Check.due("refused errors are not kept", -50, shop.map(3, 1));
    }

    static void promise05_sixteenTools() {
        ToolCrib shop = new ToolCrib();
        for (int n = 0; n < 16; n++) {
            Check.due("tool", n, shop.tool(n % 4, n % 2 == 0 ? 1 : 500));
        }
        Check.refused(shop, Check.STATE, "a 17th tool", () -> shop.tool(0, 1));
        Check.refused(shop, Check.ARGUMENT, "the argument first", () -> shop.tool(0, 0));
        for (int n = 0; n < 16; n++) {
            Check.due("kind", n % 4, shop.ofTool(n, 0));
            Check.due("life", n % 2 == 0 ? 1 : 500, shop.ofTool(n, 1));
            for (int what = 2; what <= 5; what++) {
                Check.due("at first", 0, shop.ofTool(n, what));
            }
        }
    }

    static void promise05_wrongTools() {
        ToolCrib shop = new ToolCrib();
        for (int kind : new int[] {-1, 4, Integer.MIN_VALUE, Integer.MAX_VALUE}) {
            Check.refused(shop, Check.ARGUMENT, "kind " + kind, () -> shop.tool(kind, 1));
        }
        for (int life : new int[] {-1, 0, 501, Integer.MIN_VALUE, Integer.MAX_VALUE}) {
            Check.refused(shop, Check.ARGUMENT, "life " + life, () -> shop.tool(0, life));
        }
        Check.due("none was made", 0, shop.tool(3, 500));
    }

    static void promise06_magazine() {
        ToolCrib shop = new ToolCrib();
        for (int n = 0; n < 8; n++) {
            shop.tool(0, 1);
        }
        for (int n = 0; n < 6; n++) {
            Check.due("in", n + 1, shop.load(n, true));
            Check.due("in again", n + 1, shop.load(n, true));
            Check.due("of the tool", 1, shop.ofTool(n, 4));
        }
        Check.refused(shop, Check.STATE, "a seventh", () -> shop.load(6, true));
        Check.due("one that is in may come in", 6, shop.load(5, true));
        Check.due("out that is out", 6, shop.load(6, false));
        Check.due("out", 5, shop.load(2, false));
        Check.due("of the tool", 0, shop.ofTool(2, 4));
        Check.due("then there is room", 6, shop.load(7, true));
        Check.refused(shop, Check.STATE, "the one that went out", () -> shop.load(2, true));
        for (int n : new int[] {-1, 8, Integer.MIN_VALUE, Integer.MAX_VALUE}) {
            Check.refused(shop, Check.INDEX, "load in " + n, () -> shop.load(n, true));
            Check.refused(shop, Check.INDEX, "load out " + n, () -> shop.load(n, false));
        }
    }

    static void promise24_whatOfATool() {
        ToolCrib shop = new ToolCrib();
        shop.tool(3, 77);
        Check.due("kind", 3, shop.ofTool(0, 0));
        Check.due("life", 77, shop.ofTool(0, 1));
        for (int what : new int[] {-1, 6, Integer.MIN_VALUE, Integer.MAX_VALUE}) {
            Check.refused(shop, Check.ARGUMENT, "what " + what, () -> shop.ofTool(0, what));
            Check.refused(shop, Check.INDEX, "the tool first", () -> shop.ofTool(1, what));
        }
        Check.refused(shop, Check.INDEX, "tool -1", () -> shop.ofTool(-1, 0));
    }

    static void promise24_use() {
        ToolCrib shop = new ToolCrib();
        Shop.loaded(shop, 2, 10);
        Shop.write(shop, ToolCrib.KIND, 2, ToolCrib.MODE, 1, ToolCrib.Z, 5, ToolCrib.X, 3);
        shop.pallet(6);
        shop.plan(0, 0);
        shop.night();
        Check.due("used", 4, shop.ofTool(0, 2));
        Check.due("the life stays what it was", 10, shop.ofTool(0, 1));
    }
}
