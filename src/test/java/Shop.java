/** Short ways to set a shop up for a test. */
final class Shop {
    private Shop() {
    }

    /** Begins a program of blocks told as word, value, word, value. */
    static int write(ToolCrib shop, int... blocks) {
        int program = shop.program();
        append(shop, program, blocks);
        return program;
    }

    static void append(ToolCrib shop, int program, int... blocks) {
        for (int n = 0; n < blocks.length; n += 2) {
            shop.block(program, blocks[n], blocks[n + 1]);
        }
    }

    static int loaded(ToolCrib shop, int kind, int life) {
        int tool = shop.tool(kind, life);
        shop.load(tool, true);
        return tool;
    }

    static int drawn(ToolCrib shop, int... features) {
        int drawing = shop.drawing();
        for (int n = 0; n < features.length; n += 4) {
            shop.feature(drawing, features[n], features[n + 1], features[n + 2], features[n + 3]);
        }
        return drawing;
    }

    /** A pallet that was never cut, but is DONE: an empty program ends at once. */
    static int doneUncut(ToolCrib shop, int stock) {
        int pallet = shop.pallet(stock);
        int empty = shop.program();
        shop.plan(pallet, empty);
        shop.night();
        return pallet;
    }
}
