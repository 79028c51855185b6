/** Each sentence on programs that names a bound, in the document's order: Terms, promises 2, 3, 9 and 10. */
final class EdgesOfProgramsTest {
    private static final int MODE = ToolCrib.MODE, MEASURE = ToolCrib.MEASURE, X = ToolCrib.X, Y = ToolCrib.Y,
            Z = ToolCrib.Z, KIND = ToolCrib.KIND, CALL = ToolCrib.CALL, NONE = ToolCrib.NONE;
    private static final int TRAVEL = 10000, WRONG = 20000, CRASH = 30000, ENDLESS = 40000;

    /** "Programs are numbered from 0, at most 6": what is there of the last one, and behind it. */
    static void promise02_theSixthIsThereAndNoSeventh() {
        ToolCrib shop = new ToolCrib();
        shop.pallet(1);
        for (int n = 0; n < 6; n++) {
            int next = n;
            Check.refused(shop, Check.INDEX, "not begun yet", () -> shop.block(next, MODE, 0));
            Check.refused(shop, Check.INDEX, "not begun yet", () -> shop.prove(0, next));
            Check.due("its number", n, shop.program());
            Check.due("its first block", 1, shop.block(n, X, n));
        }
        for (int n = 0; n < 3; n++) {
            Check.refused(shop, Check.STATE, "there are 6", shop::program);
        }
        Check.refused(shop, Check.INDEX, "the seventh", () -> shop.block(6, MODE, 0));
        Check.refused(shop, Check.INDEX, "the seventh", () -> shop.prove(0, 6));
        Check.refused(shop, Check.INDEX, "the seventh", () -> shop.takes(0, 6));
        Check.refused(shop, Check.INDEX, "the seventh", () -> shop.plan(0, 6));
        Shop.append(shop, 5, MEASURE, 1, X, 7);
        Check.due("the sixth is a program like others", TRAVEL + 5, shop.prove(0, 5));
    }

    /** "0 to the program less 1 for CALL". */
    static void promise03_callsOfEachProgram() {
        ToolCrib shop = new ToolCrib();
        for (int n = 0; n < 6; n++) {
            int program = shop.program();
            for (int called = 0; called < program; called++) {
                Check.due("a lower one", called + 1, shop.block(program, CALL, called));
            }
            for (int called : new int[] {-1, program, program + 1, 5, 6}) {
                if (called < 0 || called >= program) {
                    Check.refused(shop, Check.ARGUMENT, program + " calls " + called,
                            () -> shop.block(program, CALL, called));
                }
            }
        }
    }

    /** "value: 0 or 1 for MODE and MEASURE, -11 to 11 for X, Y and Z, 0 to 3 for KIND", in each program. */
    static void promise03_valuesInEachProgram() {
        int[] least = {0, 0, -11, -11, -11, 0};
        int[] greatest = {1, 1, 11, 11, 11, 3};
        ToolCrib shop = new ToolCrib();
        for (int n = 0; n < 6; n++) {
            int program = shop.program();
            int size = 0;
            for (int each = MODE; each <= KIND; each++) {
                int word = each;
                Check.refused(shop, Check.ARGUMENT, "below", () -> shop.block(program, word, least[word] - 1));
                Check.refused(shop, Check.ARGUMENT, "above", () -> shop.block(program, word, greatest[word] + 1));
                Check.due("the least", ++size, shop.block(program, word, least[word]));
                Check.due("the greatest", ++size, shop.block(program, word, greatest[word]));
            }
            Check.refused(shop, Check.ARGUMENT, "a word below", () -> shop.block(program, -1, 0));
            Check.refused(shop, Check.ARGUMENT, "a word above", () -> shop.block(program, 7, 0));
        }
    }

    /** "a row of at most 30 blocks", whatever they are: a CALL is one of them. */
    static void promise03_thirtyOfAnyWord() {
        ToolCrib shop = new ToolCrib();
        shop.program();
        shop.program();
        int[] words = {MODE, MEASURE, X, Y, Z, KIND, CALL};
        for (int n = 0; n < 30; n++) {
            Check.due("block", n + 1, shop.block(1, words[n % 7], 0));
        }
        for (int word : words) {
            Check.refused(shop, Check.STATE, "the 31st is " + word, () -> shop.block(1, word, 0));
        }
        Check.due("the other one has room", 1, shop.block(0, MODE, 0));
    }

    /** "IllegalStateException if it has 30, or a pallet is PLANNED": any pallet, of any program, in its midst too. */
    static void promise03_untilTheLastPlannedPalletIsDone() {
        ToolCrib shop = new ToolCrib();
        Shop.write(shop, KIND, 0, MODE, 1, Z, 7);
        shop.program();
        shop.pallet(9);
        shop.pallet(9);
        Check.due("RAW pallets do not matter", 1, shop.block(1, MODE, 0));
        shop.plan(1, 0);
        shop.plan(0, 0);
        Check.refused(shop, Check.STATE, "two are PLANNED", () -> shop.block(1, MODE, 0));
        Shop.loaded(shop, 0, 3);
        Check.due("one is DONE", 1, shop.night());
        Check.refused(shop, Check.STATE, "one is in its midst", () -> shop.block(1, MODE, 0));
        Shop.loaded(shop, 0, 1);
        Check.due("both are DONE", 1, shop.night());
        Check.due("DONE pallets do not matter", 2, shop.block(1, MODE, 0));
        Check.due("nor for the program they were cut by", 4, shop.block(0, MODE, 0));
    }

    /** "A program begins at x 0, y 0 and the height z 9, rapid, with places told from the corner, and without a tool". */
    static void promise09_whereAProgramBegins() {
        ToolCrib shop = new ToolCrib();
        shop.pallet(8);
        wrong(shop, "x is 0", TRAVEL, MEASURE, 1, X, -1);
        wrong(shop, "x is 0", NONE, MEASURE, 1, X, 11);
        wrong(shop, "y is 0", TRAVEL, MEASURE, 1, Y, -1);
        wrong(shop, "y is 0", NONE, MEASURE, 1, Y, 11);
        wrong(shop, "z is 9", TRAVEL, MEASURE, 1, Z, 1);
        wrong(shop, "z is 9", CRASH + 1, MEASURE, 1, Z, -2);
        wrong(shop, "rapid", CRASH + 1, KIND, 0, Z, 7);
        wrong(shop, "from the corner", NONE, X, 11, X, 11, Y, 11, Y, 11);
        wrong(shop, "without a tool", CRASH + 1, MODE, 1, Z, 7);
    }

    /** "x and y are 0 to 11, z is 0 to 9"; "TRAVEL 1, a place beyond these, ahead of the first step to it". */
    static void promise09_travelFromTheCorner() {
        for (int value = -11; value <= 11; value++) {
            ToolCrib shop = new ToolCrib();
            shop.pallet(9);
            int y = Math.floorMod(value, 12);
            wrong(shop, "x " + value, value < 0 ? TRAVEL + 3 : NONE, X, 3, X, value);
            wrong(shop, "y " + value, value < 0 ? TRAVEL + y : NONE, Y, y, Y, value);
            wrong(shop, "z " + value, value < 0 || value > 9 ? TRAVEL + 2 : NONE, KIND, 0, MODE, 1, X, 2, Z, value);
        }
    }

    /** The same from where the spindle is: all places it can be at, by all values. */
    static void promise09_travelFromTheSpindle() {
        for (int at = 0; at <= 11; at++) {
            for (int value = -11; value <= 11; value++) {
                ToolCrib shop = new ToolCrib();
                shop.pallet(1);
                boolean isThere = at + value >= 0 && at + value <= 11;
                wrong(shop, "x " + at + " by " + value, isThere ? NONE : TRAVEL + at, X, at, MEASURE, 1, X, value);
                wrong(shop, "y " + at + " by " + value, isThere ? NONE : TRAVEL + at, Y, at, MEASURE, 1, Y, value);
                boolean isHigh = at <= 9 && at + value >= 0 && at + value <= 9;
                if (at <= 9) {
                    wrong(shop, "z " + at + " by " + value, isHigh ? NONE : TRAVEL + 9 - at,
                            KIND, 1, MODE, 1, Z, at, MEASURE, 1, Z, value);
                }
            }
        }
    }

    /** "a step is each cell, or height, that it comes to": where it is already it does not come to. */
    static void promise09_stepsThatAreNone() {
        ToolCrib shop = new ToolCrib();
        shop.pallet(1);
        wrong(shop, "no step", TRAVEL, X, 0, Y, 0, Z, 9, X, -1);
        wrong(shop, "no step", TRAVEL, MEASURE, 1, X, 0, Y, 0, Z, 0, Z, 1);
        wrong(shop, "one along each", TRAVEL + 3, X, 1, Y, 1, Z, 8, Z, 10);
        wrong(shop, "all that there are", TRAVEL + 11 + 11 + 9, KIND, 0, MODE, 1, X, 11, Y, 11, Z, 0, Z, 10);
        wrong(shop, "and back", TRAVEL + 2 * (11 + 11 + 8), X, 11, Y, 11, Z, 1, X, 0, Y, 0, Z, 9, X, -1);
    }

    /** Where a step crashes, the spindle stood ahead of it: a clamp that is below the beginning is none to it. */
    static void promise09_theBeginningIsNoStep() {
        ToolCrib shop = new ToolCrib();
        shop.pallet(1);
        shop.clamp(0, 0, 0, 9);
        wrong(shop, "over the clamp", NONE, X, 5, X, 0, Z, 9);
        wrong(shop, "into the clamp", CRASH, Z, 8);
        wrong(shop, "into the clamp from its side", CRASH + 1 + 1, X, 1, Z, 8, X, 0);
    }

    /** "WRONG 2, KIND at another height than 9": each height. */
    static void promise09_kindAtEachHeight() {
        for (int z = 0; z <= 9; z++) {
            ToolCrib shop = new ToolCrib();
            shop.pallet(9);
            wrong(shop, "at " + z, z == 9 ? NONE : WRONG + 9 - z, KIND, 0, MODE, 1, Z, z, KIND, 1);
            wrong(shop, "up again", NONE, KIND, 0, MODE, 1, Z, z, Z, 9, KIND, 1);
        }
    }

    /** "CRASH 3, a step that is below a clamp of its cell": at its height and one below, for each height. */
    static void promise09_clampsOfEachHeight() {
        for (int clamp = 1; clamp <= 9; clamp++) {
            ToolCrib shop = new ToolCrib();
            shop.pallet(1);
            shop.clamp(0, 4, 7, clamp);
            int down = 9 - clamp;
            wrong(shop, "at " + clamp, NONE, X, 4, Z, clamp, Y, 11);
            wrong(shop, "down onto " + clamp, NONE, X, 4, Y, 7, Z, clamp);
            wrong(shop, "below " + clamp, CRASH + 4 + down + 1 + 6,
                    X, 4, KIND, 0, MODE, 1, Z, clamp - 1, Y, 11);
            wrong(shop, "down into " + clamp, CRASH + 11 + down, KIND, 0, MODE, 1, X, 4, Y, 7, Z, 0);
            wrong(shop, "x is not y", NONE, KIND, 0, MODE, 1, X, 7, Y, 4, Z, 0);
        }
    }

    /** "or below the stock of its cell rapid or without a tool": at its height and one below, for each height. */
    static void promise09_stockOfEachHeight() {
        for (int stock = 1; stock <= 9; stock++) {
            ToolCrib shop = new ToolCrib();
            shop.pallet(stock);
            int down = 9 - stock;
            wrong(shop, "at " + stock, NONE, Z, stock, X, 11, Y, 11);
            wrong(shop, "at " + stock + " with a tool, cutting", NONE, KIND, 0, MODE, 1, Z, stock, X, 11, Y, 11);
            wrong(shop, "rapid", CRASH + down, KIND, 0, Z, stock - 1);
            wrong(shop, "rapid again", CRASH + down, KIND, 0, MODE, 1, MODE, 0, Z, stock - 1);
            wrong(shop, "without a tool", CRASH + down, MODE, 1, Z, stock - 1);
            wrong(shop, "rapid and without", CRASH + down, Z, stock - 1);
            wrong(shop, "cutting with a tool", NONE, KIND, 3, MODE, 1, Z, stock - 1, Z, 0);
        }
    }

    /** "the stock is as high as the step then": one height lower is below it, the same is not. */
    static void promise09_theStockIsAsHighAsTheStep() {
        ToolCrib shop = new ToolCrib();
        shop.pallet(6);
        wrong(shop, "rapid at the height cut", NONE, KIND, 0, MODE, 1, Z, 4, MODE, 0, Z, 9, Z, 4);
        wrong(shop, "rapid one below", CRASH + 5 + 5 + 5, KIND, 0, MODE, 1, Z, 4, MODE, 0, Z, 9, Z, 3);
        wrong(shop, "a higher cut leaves it", NONE, KIND, 0, MODE, 1, Z, 2, Z, 5, Z, 9, MODE, 0, Z, 2);
    }

    /** "ENDLESS 4, more than 600 blocks, .. ahead of doing the 601st one": whatever the 600th and the 601st are. */
    static void promise09_theSixHundredthBlockIsDone() {
        Check.due("a CALL of a program without blocks", NONE, provenWith(600, CALL, 0));
        Check.due("the 600th goes", TRAVEL + 1, provenWith(600, X, -1));
        Check.due("the 600th changes tools", WRONG + 1, provenWith(600, KIND, 0));
        Check.due("the 600th crashes", CRASH + 1 + 2, provenWith(600, Z, 1));
        Check.due("the 600th is still done", NONE, provenWith(600, X, 11));
    }

    static void promise09_theSixHundredAndFirstIsNot() {
        Check.due("a CALL of a program without blocks", ENDLESS + 1, provenWith(601, CALL, 0));
        Check.due("ahead of going", ENDLESS + 1, provenWith(601, X, -1));
        Check.due("ahead of changing tools", ENDLESS + 1, provenWith(601, KIND, 0));
        Check.due("ahead of crashing", ENDLESS + 1, provenWith(601, Z, 1));
        Check.due("ahead of a mode", ENDLESS + 1, provenWith(601, MODE, 0));
    }

    /** A program that goes down to 8 over stock of 6, has so many blocks done, and this one as its last. */
    private static int provenWith(int blocks, int word, int value) {
        ToolCrib shop = new ToolCrib();
        shop.pallet(6);
        shop.program();
        shop.program();
        for (int n = 0; n < 30; n++) {
            shop.block(1, MODE, 0);
        }
        shop.program();
        for (int n = 0; n < 19; n++) {
            shop.block(2, CALL, 1);
        }
        // Z 8, CALL 2, 19 CALLs of 30 blocks, these, and the last one
        for (int n = 0; n < blocks - 1 - 19 * 31 - 2; n++) {
            shop.block(2, MEASURE, 0);
        }
        Shop.write(shop, Z, 8, CALL, 2, word, value);
        return shop.prove(0, 3);
    }

    /** CALLs of programs without blocks count, and what is wrong ahead of the 601st block is what is wrong first. */
    static void promise09_callsOfNothing() {
        ToolCrib shop = new ToolCrib();
        shop.pallet(6);
        shop.program();
        shop.program();
        for (int n = 0; n < 30; n++) {
            shop.block(1, CALL, 0);
        }
        shop.program();
        for (int n = 0; n < 30; n++) {
            shop.block(2, CALL, 1);
        }
        Check.due("30 are not too many", NONE, shop.prove(0, 1));
        Check.due("30 times 31 are", ENDLESS, shop.prove(0, 2));
        Shop.write(shop, X, 3, X, -1, CALL, 2);
        Check.due("travel was first", TRAVEL + 3, shop.prove(0, 3));
        Shop.write(shop, X, 3, CALL, 2, X, -1);
        Check.due("endless was first", ENDLESS + 3, shop.prove(0, 4));
    }

    /** As many CALLs within CALLs as there can be. */
    static void promise09_sixProgramsDeep() {
        ToolCrib shop = new ToolCrib();
        shop.pallet(1);
        Shop.write(shop, MEASURE, 1, X, 1);
        for (int n = 1; n < 6; n++) {
            Shop.write(shop, CALL, n - 1, Y, 1);
        }
        Check.due("one along x, five along y", NONE, shop.prove(0, 5));
        ToolCrib other = new ToolCrib();
        other.pallet(1);
        Shop.write(other, Y, 1);
        for (int n = 1; n < 6; n++) {
            Shop.write(other);
            for (int m = 0; m < 30; m++) {
                other.block(n, CALL, n - 1);
            }
        }
        Check.due("thirty of thirty of thirty", ENDLESS + 1, other.prove(0, 5));
        Check.due("what is wrong is told", NONE, other.takes(0, 5));
        Check.refused(other, Check.STATE, "not to be planned", () -> other.plan(0, 5));
    }

    /** "A program begins ..", each time that it is proved: whatever another one set before it. */
    static void promise09_eachBeginsAlike() {
        ToolCrib shop = new ToolCrib();
        shop.pallet(8);
        Shop.write(shop, KIND, 2, X, 3, Y, 4, MODE, 1, MEASURE, 1, Z, -9);
        Shop.write(shop, MODE, 1, Z, 7);
        Shop.write(shop, KIND, 0, Z, 7);
        Shop.write(shop, Z, 9, X, 11, X, 11, Y, 11, Y, 11);
        Shop.write(shop, MEASURE, 1, X, -1);
        int[] want = {NONE, CRASH + 1, CRASH + 1, NONE, TRAVEL};
        for (int n = 1; n < 5; n++) {
            Check.due("all is set", NONE, shop.prove(0, 0));
            Check.due("and is not, anew", want[n], shop.prove(0, n));
        }
        shop.plan(0, 0);
        shop.night();
        Check.due("a night that waits sets nothing either", CRASH + 1, shop.prove(0, 1));
    }

    /** "what is set by them stays set behind them": each word. */
    static void promise09_whatACallSetsStaysSet() {
        ToolCrib shop = new ToolCrib();
        shop.pallet(8);
        Shop.write(shop, MODE, 1);
        Shop.write(shop, MEASURE, 1);
        Shop.write(shop, KIND, 2);
        Shop.write(shop, X, 4);
        Shop.write(shop, CALL, 0, CALL, 1, CALL, 2, CALL, 3, Z, -2, X, 7);
        Shop.write(shop, KIND, 1, MODE, 1, CALL, 4, X, 1);
        Check.due("all of it", NONE, shop.prove(0, 4));
        Check.due("down at x 4, then to x 11", 1 + 7, shop.takes(0, 4));
        Check.due("one beyond", TRAVEL + 4 + 2 + 7, shop.prove(0, 5));
    }

    /** "Returns 10000 times what is wrong first, and the steps that were gone ahead of that, together". */
    static void promise09_noStepsAndVeryMany() {
        ToolCrib shop = new ToolCrib();
        shop.pallet(9);
        wrong(shop, "no steps", TRAVEL, X, -1);
        wrong(shop, "no steps", CRASH, Z, 8);
        shop.program();
        Shop.write(shop, X, 11, X, 0, X, 11, X, 0, X, 11, X, 0, X, 11, X, 0, X, 11, X, 0);
        shop.program();
        for (int n = 0; n < 30; n++) {
            shop.block(2, CALL, 1);
        }
        Shop.write(shop, CALL, 2, X, -1);
        Check.due("3300 steps", TRAVEL + 3300, shop.prove(0, 3));
        Shop.write(shop, CALL, 2, Z, 8);
        Check.due("3300 steps", CRASH + 3300, shop.prove(0, 4));
    }

    /** "how many minutes a program would cut": none, and all that there are. */
    static void promise10_noneAndAll() {
        ToolCrib shop = new ToolCrib();
        for (int stock = 1; stock <= 6; stock++) {
            shop.pallet(stock + 3);
        }
        Shop.write(shop, Z, 9);
        Shop.shaveAll(shop);
        for (int n = 0; n < 6; n++) {
            Check.due("none", 0, shop.takes(n, 0));
            Check.due("each cell, each height", 144 * (n + 4), shop.takes(n, 2));
            Check.due("nothing is wrong", NONE, shop.prove(n, 2));
        }
    }

    /** "NONE if something is wrong", also when it cut much ahead of that. */
    static void promise10_noneIfSomethingIsWrong() {
        int[][] ends = {{X, -1}, {KIND, 0}, {MODE, 0, X, 10, Z, 3}};
        for (int[] end : ends) {
            ToolCrib shop = new ToolCrib();
            shop.pallet(9);
            Shop.write(shop, KIND, 0, MODE, 1, Z, 4, X, 10);
            Check.due("15 cuts", 15, shop.takes(0, 0));
            Shop.append(shop, 0, end);
            Check.due("wrong behind them", NONE, shop.takes(0, 0));
        }
    }

    /** "a pallet as it is, from its beginning on": in the midst, and DONE. */
    static void promise10_inTheMidstFromTheBeginning() {
        ToolCrib shop = new ToolCrib();
        shop.pallet(9);
        Shop.write(shop, KIND, 0, MODE, 1, Z, 8, X, 9);
        Shop.write(shop, Z, 8, X, 9);
        shop.plan(0, 0);
        Shop.loaded(shop, 0, 4);
        shop.night();
        Check.due("6 of 10 are left", 6, shop.takes(0, 0));
        Check.due("nothing is wrong", NONE, shop.prove(0, 0));
        Check.due("rapid as far as it was cut", CRASH + 1 + 3, shop.prove(0, 1));
        Shop.loaded(shop, 0, 6);
        shop.night();
        Check.due("nothing is left", 0, shop.takes(0, 0));
        Check.due("rapid all along", NONE, shop.prove(0, 1));
    }

    private static void wrong(ToolCrib like, String what, int want, int... blocks) {
        ToolCrib shop = Shop.alike(like);
        Shop.write(shop, blocks);
        Check.due(what, want, shop.prove(0, 0));
        Check.due(what + ", takes", want == NONE ? 0 : 1, shop.takes(0, 0) == NONE ? 1 : 0);
        if (want == NONE) {
            Check.due(what + ", plan", 1, shop.plan(0, 0));
        } else {
            Check.refused(shop, Check.STATE, what + ", plan", () -> shop.plan(0, 0));
        }
    }
}
