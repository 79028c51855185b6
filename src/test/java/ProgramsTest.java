/** Promises 2, 3, 9 and 10: programs, and what is wrong with them. */
final class ProgramsTest {
    private static final int MODE = ToolCrib.MODE, MEASURE = ToolCrib.MEASURE, X = ToolCrib.X, Y = ToolCrib.Y,
            Z = ToolCrib.Z, KIND = ToolCrib.KIND, CALL = ToolCrib.CALL;
    private static final int TRAVEL = 10000, WRONG = 20000, CRASH = 30000, ENDLESS = 40000;

    static void promise02_sixPrograms() {
        ToolCrib shop = new ToolCrib();
        for (int n = 0; n < 6; n++) {
            Check.due("program", n, shop.program());
        }
        Check.refused(shop, Check.STATE, "a seventh program", shop::program);
        shop.pallet(9);
        for (int n = 0; n < 6; n++) {
            Check.due("an empty program is not wrong", ToolCrib.NONE, shop.prove(0, n));
            Check.due("an empty program takes nothing", 0, shop.takes(0, n));
        }
    }

    static void promise03_valuesOfEachWord() {
        int[][] ranges = {{0, 1}, {0, 1}, {-11, 11}, {-11, 11}, {-11, 11}, {0, 3}, {0, 1}};
        ToolCrib shop = new ToolCrib();
        shop.program();
        shop.program();
        shop.program();
        int size = 0;
        for (int word = 0; word <= 6; word++) {
            int named = word;
            int low = ranges[word][0];
            int high = ranges[word][1];
            Check.due("the lowest value of " + word, ++size, shop.block(2, word, low));
            Check.due("the highest value of " + word, ++size, shop.block(2, word, high));
            Check.refused(shop, Check.ARGUMENT, "below " + word, () -> shop.block(2, named, low - 1));
            Check.refused(shop, Check.ARGUMENT, "above " + word, () -> shop.block(2, named, high + 1));
            Check.refused(shop, Check.ARGUMENT, "far above", () -> shop.block(2, named, Integer.MAX_VALUE));
            Check.refused(shop, Check.ARGUMENT, "far below", () -> shop.block(2, named, Integer.MIN_VALUE));
        }
        for (int word : new int[] {-1, 7, Integer.MIN_VALUE, Integer.MAX_VALUE}) {
            Check.refused(shop, Check.ARGUMENT, "word " + word, () -> shop.block(2, word, 0));
        }
        Check.refused(shop, Check.ARGUMENT, "program 0 can call none", () -> shop.block(0, CALL, 0));
        Check.refused(shop, Check.ARGUMENT, "no program calls itself", () -> shop.block(1, CALL, 1));
    }

    static void promise03_thirtyBlocks() {
        ToolCrib shop = new ToolCrib();
        shop.program();
        for (int n = 1; n <= 30; n++) {
            Check.due("block", n, shop.block(0, MODE, 0));
        }
        Check.refused(shop, Check.STATE, "a 31st block", () -> shop.block(0, MODE, 0));
        shop.program();
        Check.due("the next program has its own thirty", 1, shop.block(1, MODE, 0));
    }

    static void promise03_whichIsThrownFirst() {
        ToolCrib shop = new ToolCrib();
        shop.program();
        for (int n = 0; n < 30; n++) {
            shop.block(0, MODE, 0);
        }
        Check.refused(shop, Check.INDEX, "no program -1", () -> shop.block(-1, 9, 0));
        Check.refused(shop, Check.INDEX, "no program 1", () -> shop.block(1, 9, 0));
        Check.refused(shop, Check.ARGUMENT, "the value ahead of the room", () -> shop.block(0, MODE, 2));
        Check.refused(shop, Check.STATE, "no room", () -> shop.block(0, MODE, 1));
    }

    static void promise03_notWhileAPalletIsPlanned() {
        ToolCrib shop = new ToolCrib();
        Shop.loaded(shop, 0, 9);
        Shop.write(shop, KIND, 0, MODE, 1, Z, 8);
        shop.program();
        shop.pallet(9);
        Check.due("block", 1, shop.block(1, MODE, 0));
        shop.plan(0, 0);
        Check.refused(shop, Check.STATE, "a block of the planned program", () -> shop.block(0, MODE, 0));
        Check.refused(shop, Check.STATE, "a block of another program", () -> shop.block(1, MODE, 0));
        Check.refused(shop, Check.ARGUMENT, "the value first", () -> shop.block(1, MODE, 2));
        Check.due("a program can be begun", 2, shop.program());
        shop.night();
        Check.due("blocks again when it is done", 2, shop.block(1, MODE, 0));
    }

    static void promise09_travel() {
        ToolCrib shop = new ToolCrib();
        shop.pallet(1);
        proves(shop, "x below 0", TRAVEL, X, -1);
        proves(shop, "x 11 is there", ToolCrib.NONE, X, 11, X, 0, Y, 11, Y, 0, Z, 1, Z, 9);
        proves(shop, "z 10 is none", TRAVEL, Z, 10);
        proves(shop, "y from the spindle", TRAVEL + 11, Y, 11, MEASURE, 1, Y, 1);
        proves(shop, "x from the spindle", TRAVEL + 11, X, 11, MEASURE, 1, X, 1);
        proves(shop, "y below 0", TRAVEL + 2, Y, 2, MEASURE, 1, Y, -3);
        proves(shop, "z from the spindle", TRAVEL + 4, Z, 5, MEASURE, 1, Z, -6);
        proves(shop, "z above the top", TRAVEL + 3, Z, 6, MEASURE, 1, Z, 4);
    }

    static void promise09_aPlaceIsNoStep() {
        ToolCrib shop = new ToolCrib();
        shop.pallet(1);
        proves(shop, "where it is already", TRAVEL, X, 0, Y, 0, Z, 9, MEASURE, 1, X, 0, Y, 0, Z, 0, X, -1);
        proves(shop, "there and back", TRAVEL + 14, X, 5, X, 2, MEASURE, 1, X, 3, X, -3, X, -3);
    }

    static void promise09_wrong() {
        ToolCrib shop = new ToolCrib();
        shop.pallet(1);
        proves(shop, "a tool at 8", WRONG + 1, Z, 8, KIND, 0);
        proves(shop, "a tool at 9", ToolCrib.NONE, KIND, 0, Z, 8, Z, 9, KIND, 3);
        proves(shop, "the same tool at 8", WRONG + 1, KIND, 2, Z, 8, KIND, 2);
    }

    static void promise09_crashIntoStock() {
        ToolCrib shop = new ToolCrib();
        shop.pallet(4);
        proves(shop, "rapid with a tool", CRASH + 5, KIND, 1, Z, 4, Z, 3);
        proves(shop, "cutting without a tool", CRASH + 5, MODE, 1, Z, 3);
        proves(shop, "rapid again", CRASH + 6, KIND, 1, MODE, 1, Z, 3, MODE, 0, X, 1);
        proves(shop, "rapid again, from above", CRASH + 9,
                KIND, 1, MODE, 1, Z, 3, MODE, 0, MEASURE, 1, Z, 1, Y, 1, X, 1, Z, -1);
        proves(shop, "cutting with a tool", ToolCrib.NONE, KIND, 1, MODE, 1, Z, 0, X, 3, Y, 2);
    }

    static void promise09_rapidWhereItWasCut() {
        ToolCrib shop = new ToolCrib();
        shop.pallet(4);
        proves(shop, "back along what was cut", ToolCrib.NONE,
                KIND, 1, MODE, 1, Z, 2, X, 3, MODE, 0, X, 0, Z, 9);
        proves(shop, "one cell further", CRASH + 7 + 3 + 3,
                KIND, 1, MODE, 1, Z, 2, X, 3, MODE, 0, X, 0, Y, 1);
    }

    static void promise09_crashIntoClamps() {
        ToolCrib shop = new ToolCrib();
        shop.pallet(2);
        shop.clamp(0, 3, 0, 5);
        proves(shop, "over it at its height", ToolCrib.NONE, Z, 5, X, 11);
        proves(shop, "below it", CRASH + 5 + 2, Z, 4, X, 11);
        proves(shop, "below it, cutting", CRASH + 5 + 2, KIND, 0, MODE, 1, Z, 4, X, 11);
        proves(shop, "down on it", CRASH + 3 + 4, X, 3, Z, 0);
        proves(shop, "beside it", ToolCrib.NONE, Y, 1, Z, 4, X, 11);
    }

    static void promise09_endless() {
        // 30 + 29 blocks, once and again: 19 CALLs of a program of 30, and 11 blocks, are 600
        ToolCrib shop = new ToolCrib();
        shop.pallet(1);
        shop.program();
        fill(shop, 0, 30, 0);
        shop.program();
        for (int n = 0; n < 19; n++) {
            shop.block(1, CALL, 0);
        }
        fill(shop, 1, 11, 0);
        Check.due("600 blocks", ToolCrib.NONE, shop.prove(0, 1));
        shop.program();
        shop.block(2, CALL, 1);
        Check.due("601 blocks", ENDLESS, shop.prove(0, 2));
        Check.due("takes", ToolCrib.NONE, shop.takes(0, 2));
    }

    static void promise09_endlessBehindItsSteps() {
        ToolCrib shop = new ToolCrib();
        shop.pallet(1);
        shop.program();
        for (int n = 0; n < 15; n++) {
            Shop.append(shop, 0, X, 11, X, 0);
        }
        shop.program();
        for (int n = 0; n < 19; n++) {
            shop.block(1, CALL, 0);
        }
        for (int n = 0; n < 5; n++) {
            Shop.append(shop, 1, Y, 11, Y, 0);
        }
        shop.block(1, Y, 11);
        Check.due("600 blocks", ToolCrib.NONE, shop.prove(0, 1));
        shop.program();
        Shop.append(shop, 2, CALL, 1, X, 1);
        Check.due("the 600th block is done whole", ENDLESS + (19 * 30 + 10) * 11, shop.prove(0, 2));
        shop.program();
        for (int n = 0; n < 30; n++) {
            shop.block(3, CALL, 2);
        }
        Check.due("what is called by what is called counts", ENDLESS + (19 * 30 + 9) * 11, shop.prove(0, 3));
    }

    static void promise09_callsOfCalls() {
        ToolCrib shop = new ToolCrib();
        shop.pallet(1);
        Shop.write(shop, MEASURE, 1, X, 1);
        Shop.write(shop, CALL, 0, CALL, 0, Y, 1);
        Shop.write(shop, CALL, 1, CALL, 0);
        Shop.write(shop, CALL, 2, CALL, 1, X, 9);
        shop.program();
        Shop.append(shop, 4, CALL, 3, X, -6);
        Check.due("5 along x, then 9 too many", TRAVEL + 7, shop.prove(0, 4));
        Check.due("3 along x, 1 along y", ToolCrib.NONE, shop.prove(0, 2));
        shop.program();
        Shop.append(shop, 5, CALL, 2, MEASURE, 0, Y, 11, MEASURE, 1, Y, 1);
        Check.due("what is set stays set", TRAVEL + 3 + 1 + 10, shop.prove(0, 5));
    }

    static void promise09_kindAndModeStaySetBehindACall() {
        ToolCrib shop = new ToolCrib();
        shop.pallet(5);
        Shop.write(shop, KIND, 2, MODE, 1);
        Shop.write(shop, CALL, 0, Z, 3);
        Shop.write(shop, Z, 3);
        Check.due("cutting", 2, shop.takes(0, 1));
        Check.due("rapid at the beginning of each proof", CRASH + 4, shop.prove(0, 2));
    }

    static void promise09_eachProofBeginsAnew() {
        ToolCrib shop = new ToolCrib();
        shop.pallet(5);
        Shop.write(shop, KIND, 2, MODE, 1, MEASURE, 1, Y, 3, X, 2, Z, -5);
        Shop.write(shop, KIND, 2, Z, 4);
        Shop.write(shop, MODE, 1, Z, 4);
        Shop.write(shop, X, 5, X, 1);
        Shop.write(shop, Z, 5, X, -1);
        Check.due("cutting", 1, shop.takes(0, 0));
        Check.due("rapid again", CRASH + 4, shop.prove(0, 1));
        shop.takes(0, 0);
        Check.due("without a tool again", CRASH + 4, shop.prove(0, 2));
        shop.takes(0, 0);
        Check.due("told from the corner again", ToolCrib.NONE, shop.prove(0, 3));
        shop.takes(0, 0);
        Check.due("at the height 9 again", TRAVEL + 4, shop.prove(0, 4));
    }

    static void promise09_whatIsWrongFirst() {
        ToolCrib shop = new ToolCrib();
        shop.pallet(5);
        proves(shop, "crash ahead of travel", CRASH + 4, Z, 4, X, -1);
        proves(shop, "travel ahead of crash", TRAVEL, X, -1, Z, 4);
        proves(shop, "wrong ahead of crash", WRONG + 4, Z, 5, KIND, 1, Z, 4);
    }

    static void promise09_aPalletAsItIs() {
        ToolCrib shop = new ToolCrib();
        shop.pallet(5);
        Shop.loaded(shop, 0, 100);
        Shop.write(shop, KIND, 0, MODE, 1, Z, 3, X, 3);
        Shop.write(shop, Z, 3, X, 4);
        Check.due("raw", CRASH + 4, shop.prove(0, 1));
        shop.plan(0, 0);
        shop.night();
        Check.due("cut", CRASH + 6 + 3, shop.prove(0, 1));
        Check.due("nothing more to cut", 0, shop.takes(0, 0));
    }

    static void promise09_noSuchOnes() {
        ToolCrib shop = new ToolCrib();
        shop.pallet(1);
        shop.program();
        for (int n : new int[] {-1, 1, Integer.MIN_VALUE, Integer.MAX_VALUE}) {
            Check.refused(shop, Check.INDEX, "prove pallet " + n, () -> shop.prove(n, 0));
            Check.refused(shop, Check.INDEX, "prove program " + n, () -> shop.prove(0, n));
            Check.refused(shop, Check.INDEX, "takes pallet " + n, () -> shop.takes(n, 0));
            Check.refused(shop, Check.INDEX, "takes program " + n, () -> shop.takes(0, n));
        }
    }

    static void promise10_minutes() {
        ToolCrib shop = new ToolCrib();
        shop.pallet(6);
        takes(shop, "down and up", 3, KIND, 0, MODE, 1, Z, 3, Z, 9);
        takes(shop, "each lower height is a cut", 6, KIND, 0, MODE, 1, Z, 0, Z, 9, Z, 0);
        takes(shop, "at its height is no cut", 0, KIND, 0, MODE, 1, Z, 6, X, 11, Y, 11);
        takes(shop, "cells", 1 + 11 + 11, KIND, 0, MODE, 1, Z, 5, X, 11, Y, 11);
        takes(shop, "once each", 1 + 11, KIND, 0, MODE, 1, Z, 5, X, 11, X, 0);
        takes(shop, "without tools made ready", 1, KIND, 3, MODE, 1, Z, 5);
        takes(shop, "something is wrong", ToolCrib.NONE, KIND, 0, MODE, 1, Z, 3, X, -1);
    }

    static void promise10_questionsChangeNothing() {
        ToolCrib shop = new ToolCrib();
        shop.pallet(6);
        Shop.write(shop, KIND, 0, MODE, 1, Z, 3, X, 11);
        for (int n = 0; n < 3; n++) {
            Check.due("takes", 14, shop.takes(0, 0));
            Check.due("prove", ToolCrib.NONE, shop.prove(0, 0));
        }
        Check.due("stock", 6, shop.ofCell(0, 0, 0, 0));
        Check.due("gone", 0, shop.ofPallet(0, 1));
    }

    private static void fill(ToolCrib shop, int program, int blocks, int value) {
        for (int n = 0; n < blocks; n++) {
            shop.block(program, MODE, value);
        }
    }

    private static void proves(ToolCrib like, String what, int want, int... blocks) {
        ToolCrib shop = Shop.alike(like);
        Shop.write(shop, blocks);
        Check.due(what, want, shop.prove(0, 0));
        Check.due(what + ", takes", want == ToolCrib.NONE ? 1 : 0, shop.takes(0, 0) == ToolCrib.NONE ? 0 : 1);
    }

    private static void takes(ToolCrib like, String what, int want, int... blocks) {
        ToolCrib shop = Shop.alike(like);
        Shop.write(shop, blocks);
        Check.due(what, want, shop.takes(0, 0));
    }
}
