/** Short ways to set a shop up for a test. */
final class Shop {
    private Shop() {
    }

    /** Begins a program of blocks told as word, value, word, value. */
    static int write(ToolCrib shop, int... blocks) {
        int program = shop.program();
        append(shop, program, blocks);
        return program;
    }

    static void append(ToolCrib shop, int program, int... blocks) {
        for (int n = 0; n < blocks.length; n += 2) {
            shop.block(program, blocks[n], blocks[n + 1]);
        }
    }

    static int loaded(ToolCrib shop, int kind, int life) {
        int tool = shop.tool(kind, life);
        shop.load(tool, true);
        return tool;
    }

    static int drawn(ToolCrib shop, int... features) {
        int drawing = shop.drawing();
        for (int n = 0; n < features.length; n += 4) {
            shop.feature(drawing, features[n], features[n + 1], features[n + 2], features[n + 3]);
        }
        return drawing;
    }

    /** A pallet that was never cut, but is DONE: an empty program ends at once. */
    static int doneUncut(ToolCrib shop, int stock) {
        int pallet = shop.pallet(stock);
        int empty = shop.program();
        shop.plan(pallet, empty);
        shop.night();
        return pallet;
    }

    /** Writes two programs: the second one cuts all cells to the height 0, a height each time, by kind 0. */
    static int shaveAll(ToolCrib shop) {
        int row = shop.program();
        for (int y = 0; y < 12; y++) {
            append(shop, row, ToolCrib.Y, y, ToolCrib.X, y % 2 == 0 ? 11 : 0);
        }
        append(shop, row, ToolCrib.Y, 0);
        int all = write(shop, ToolCrib.KIND, 0, ToolCrib.MODE, 1);
        for (int z = 8; z >= 0; z--) {
            append(shop, all, ToolCrib.Z, z, ToolCrib.CALL, row);
        }
        return all;
    }

    /** A new shop with a pallet like the first one of this shop, and nothing else: a program each needs a shop each. */
    static ToolCrib alike(ToolCrib like) {
        ToolCrib shop = new ToolCrib();
        shop.pallet(like.ofCell(0, 11, 11, 0));
        for (int cell = 0; cell < 144; cell++) {
            int clamp = like.ofCell(0, cell % 12, cell / 12, 4);
            if (clamp > 0) {
                shop.clamp(0, cell % 12, cell / 12, clamp);
            }
        }
        return shop;
    }
}
