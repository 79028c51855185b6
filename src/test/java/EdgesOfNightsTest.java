/** Each sentence on pallets and nights that names a bound: Terms, promises 7, 8, 11 to 15, 22, 25 and 26. */
final class EdgesOfNightsTest {
    private static final int MODE = ToolCrib.MODE, X = ToolCrib.X, Y = ToolCrib.Y, Z = ToolCrib.Z,
            KIND = ToolCrib.KIND, NONE = ToolCrib.NONE;
    private static final int RAW = ToolCrib.RAW, PLANNED = ToolCrib.PLANNED, DONE = ToolCrib.DONE;
    private static final int STATE = 0, GONE = 1, PLACE = 2, JUDGED = 3;
    private static final int CLAMP = 4;

    /** "Pallets are numbered from 0, at most 6": the last one, and what is behind it. */
    static void promise07_theSixthIsThereAndNoSeventh() {
        ToolCrib shop = new ToolCrib();
        shop.program();
        for (int n = 0; n < 6; n++) {
            int next = n;
            Check.refused(shop, Check.INDEX, "not set up yet", () -> shop.ofPallet(next, STATE));
            Check.refused(shop, Check.INDEX, "not set up yet", () -> shop.clamp(next, 0, 0, 1));
            Check.due("its number", n, shop.pallet(n + 1));
            Check.due("RAW", RAW, shop.ofPallet(n, STATE));
        }
        Check.refused(shop, Check.STATE, "there are 6", () -> shop.pallet(9));
        Check.refused(shop, Check.INDEX, "the seventh", () -> shop.ofPallet(6, STATE));
        Check.refused(shop, Check.INDEX, "the seventh", () -> shop.ofCell(6, 0, 0, 0));
        Check.refused(shop, Check.INDEX, "the seventh", () -> shop.clamp(6, 0, 0, 1));
        Check.refused(shop, Check.INDEX, "the seventh", () -> shop.plan(6, 0));
        Check.refused(shop, Check.INDEX, "the seventh", () -> shop.prove(6, 0));
        Check.refused(shop, Check.INDEX, "the seventh", () -> shop.takes(6, 0));
        Check.due("the last one is a pallet like others", 1, shop.plan(5, 0));
        shop.night();
        Check.refused(shop, Check.STATE, "DONE ones are there too", () -> shop.pallet(9));
    }

    /** "stock of one height, 1 to 9, in all cells". */
    static void promise07_stocks() {
        for (int stock = 1; stock <= 9; stock++) {
            ToolCrib shop = new ToolCrib();
            Check.refused(shop, Check.ARGUMENT, "one below", () -> shop.pallet(0));
            Check.refused(shop, Check.ARGUMENT, "one above", () -> shop.pallet(10));
            Check.due("the first is 0", 0, shop.pallet(stock));
            for (int corner = 0; corner < 4; corner++) {
                Check.due("height", stock, shop.ofCell(0, corner % 2 * 11, corner / 2 * 11, 0));
                Check.due("size", 1000 * stock, shop.ofCell(0, corner % 2 * 11, corner / 2 * 11, 1));
            }
        }
    }

    /** "clamps in at most 3 cells, each with a height", 1 to 9: each height, each corner; "how many cells have one". */
    static void promise08_heightsAndCorners() {
        ToolCrib shop = new ToolCrib();
        for (int n = 0; n < 6; n++) {
            shop.pallet(5);
        }
        int[] xs = {0, 11, 0, 11, 5, 6};
        int[] ys = {0, 0, 11, 11, 6, 5};
        for (int n = 0; n < 18; n++) {
            int pallet = n / 3;
            int x = xs[n % 6];
            int y = ys[n % 6];
            int height = n % 9 + 1;
            Check.due("none there", 0, shop.ofCell(pallet, x, y, CLAMP));
            Check.refused(shop, Check.ARGUMENT, "one below", () -> shop.clamp(pallet, x, y, 0));
            Check.refused(shop, Check.ARGUMENT, "one above", () -> shop.clamp(pallet, x, y, 10));
            Check.due("how many", n % 3 + 1, shop.clamp(pallet, x, y, height));
            Check.due("there", height, shop.ofCell(pallet, x, y, CLAMP));
            Check.refused(shop, Check.STATE, "the cell has one", () -> shop.clamp(pallet, x, y, height));
        }
        for (int n = 0; n < 6; n++) {
            int pallet = n;
            Check.refused(shop, Check.STATE, "3 have", () -> shop.clamp(pallet, 3, 3, 1));
        }
    }

    /** "if it is not RAW, the cell has one, or 3 have": the cell that has one does not count against the 3. */
    static void promise08_aRefusedClampIsNone() {
        ToolCrib shop = new ToolCrib();
        shop.pallet(5);
        for (int n = 1; n <= 3; n++) {
            int x = n;
            Check.due("clamp", n, shop.clamp(0, x, 0, 9));
            Check.refused(shop, Check.STATE, "the cell has one", () -> shop.clamp(0, x, 0, 1));
            Check.refused(shop, Check.INDEX, "no cell", () -> shop.clamp(0, 12, x, 1));
            Check.refused(shop, Check.INDEX, "no cell", () -> shop.clamp(0, x, -1, 1));
        }
        Check.refused(shop, Check.STATE, "3 have", () -> shop.clamp(0, 4, 0, 1));
        Check.due("none there", 0, shop.ofCell(0, 4, 0, CLAMP));
        Check.due("a pallet with 3 clamps can be planned", 1, shop.plan(0, shop.program()));
    }

    /** "IllegalStateException if it is not RAW, or something is wrong": each state, each thing that is wrong. */
    static void promise11_eachThingThatIsWrong() {
        int[][] wrongs = {{X, -1}, {Z, 6, KIND, 0}, {Z, 4}, {KIND, 0, MODE, 1, Z, 4, Z, 10}};
        for (int[] wrong : wrongs) {
            ToolCrib shop = new ToolCrib();
            shop.pallet(5);
            Shop.write(shop, wrong);
            Check.refused(shop, Check.STATE, "wrong", () -> shop.plan(0, 0));
            Check.due("still RAW", RAW, shop.ofPallet(0, STATE));
            Check.due("it can have a clamp", 1, shop.clamp(0, 0, 0, 1));
            shop.program();
            Check.due("it can be planned", 1, shop.plan(0, 1));
            Check.refused(shop, Check.STATE, "PLANNED", () -> shop.plan(0, 1));
            Check.refused(shop, Check.STATE, "PLANNED, and wrong", () -> shop.plan(0, 0));
            shop.night();
            Check.refused(shop, Check.STATE, "DONE", () -> shop.plan(0, 1));
            Check.refused(shop, Check.STATE, "DONE, and wrong", () -> shop.plan(0, 0));
            Check.refused(shop, Check.INDEX, "no such program first", () -> shop.plan(0, 2));
            Check.refused(shop, Check.INDEX, "no such pallet first", () -> shop.plan(1, 0));
        }
    }

    /** "as the last one of the queue": an empty queue, a full one, and behind those that went. */
    static void promise11_theLastOneOfTheQueue() {
        ToolCrib shop = new ToolCrib();
        Shop.write(shop);
        Shop.write(shop, KIND, 0, MODE, 1, Z, 8);
        for (int n = 0; n < 6; n++) {
            shop.pallet(9);
            Check.due("not in the queue", NONE, shop.ofPallet(n, PLACE));
        }
        Check.due("the first", 1, shop.plan(5, 0));
        Check.due("the second", 2, shop.plan(0, 1));
        Check.due("one is DONE", 1, shop.night());
        Check.due("first then", 0, shop.ofPallet(0, PLACE));
        int[] order = {4, 2, 3, 1};
        for (int n = 0; n < 4; n++) {
            Check.due("behind it", n + 2, shop.plan(order[n], n % 2));
            Check.due("its place", n + 1, shop.ofPallet(order[n], PLACE));
        }
        Check.due("still the first", 0, shop.ofPallet(0, PLACE));
        Check.due("all wait for the first", 0, shop.night());
        Shop.loaded(shop, 0, 2);
        Check.due("up to the next cut", 4, shop.night());
        Check.due("the last is the first", 0, shop.ofPallet(1, PLACE));
    }

    /** "One that is cut to the end is DONE": without blocks, without steps, without cuts, with the last step a cut. */
    static void promise12_cutToTheEnd() {
        int[][] ways = {{}, {KIND, 0, MODE, 1}, {X, 3, Y, 2}, {KIND, 0, MODE, 1, Z, 8}, {KIND, 0, MODE, 1, Z, 8, Z, 9}};
        int[] steps = {0, 0, 5, 1, 2};
        int[] cuts = {0, 0, 0, 1, 1};
        for (int n = 0; n < ways.length; n++) {
            ToolCrib shop = new ToolCrib();
            Shop.write(shop, ways[n]);
            shop.pallet(9);
            shop.plan(0, 0);
            Check.due("foresees", 1 - cuts[n], shop.foresees());
            Check.due("night without tools", 1 - cuts[n], shop.night());
            Check.due("steps up to the cut", cuts[n] > 0 ? 0 : steps[n], shop.ofPallet(0, GONE));
            Shop.loaded(shop, 0, 1);
            Check.due("foresees", cuts[n], shop.foresees());
            Check.due("night with one minute", cuts[n], shop.night());
            Check.due("all steps", steps[n], shop.ofPallet(0, GONE));
            Check.due("DONE", DONE, shop.ofPallet(0, STATE));
            Check.due("no more in the queue", NONE, shop.ofPallet(0, PLACE));
            Check.due("minute", cuts[n], shop.minute());
        }
    }

    /** "If no tool is there for a step that cuts, the night ends ahead of that step": ahead of each cut there is. */
    static void promise12_aMinuteEachNight() {
        ToolCrib shop = new ToolCrib();
        Shop.write(shop, X, 2, Y, 1, KIND, 1, MODE, 1, Z, 6, X, 5, MODE, 0, Z, 9);
        shop.pallet(8);
        shop.plan(0, 0);
        Check.due("5 cuts", 5, shop.takes(0, 0));
        Shop.loaded(shop, 0, 500);
        int[] gone = {4, 5, 6, 7, 8};
        for (int n = 0; n < 5; n++) {
            for (int again = 0; again < 2; again++) {
                Check.due("foresees nothing", 0, shop.foresees());
                Check.due("lacks", 5 - n, shop.lacks(1));
                Check.due("night", 0, shop.night());
                Check.due("ahead of the cut", gone[n], shop.ofPallet(0, GONE));
                Check.due("the first one", 0, shop.ofPallet(0, PLACE));
                Check.due("PLANNED", PLANNED, shop.ofPallet(0, STATE));
                Check.due("minute", n, shop.minute());
            }
            int tool = Shop.loaded(shop, 1, 1);
            if (n < 4) {
                Check.due("one more", 0, shop.night());
                shop.load(tool, false);
            }
        }
        Check.due("foresees", 1, shop.foresees());
        Check.due("the last cut, and what is behind it", 1, shop.night());
        Check.due("all steps", 4 + 5 + 3, shop.ofPallet(0, GONE));
        Check.due("no minute of the other kind", 0, shop.ofTool(0, 2));
    }

    /** "goes on there, behind the steps that were gone": behind a rapid way over what was cut, in a called program. */
    static void promise12_goesOnInACall() {
        ToolCrib shop = new ToolCrib();
        Shop.write(shop, ToolCrib.MEASURE, 1, MODE, 1, X, 2, MODE, 0, X, -2, MODE, 1, Y, 1);
        Shop.write(shop, KIND, 0, MODE, 1, Z, 8, ToolCrib.CALL, 0, ToolCrib.CALL, 0, Z, 1);
        shop.pallet(9);
        Check.due("cuts", 1 + 2 + 1 + 2 + 1, shop.takes(0, 1));
        shop.plan(0, 1);
        int[] gone = {1, 2, 5, 6, 7, 10};
        for (int n = 0; n < gone.length; n++) {
            int tool = Shop.loaded(shop, 0, 1);
            shop.night();
            shop.load(tool, false);
            Check.due("gone, up to the next cut", gone[n], shop.ofPallet(0, GONE));
        }
        Shop.loaded(shop, 0, 1);
        Check.due("DONE", 1, shop.night());
        Check.due("1 and twice 5 and 1 up", 12, shop.ofPallet(0, GONE));
        Check.due("not beyond", 9, shop.ofCell(0, 1, 2, 0));
        Check.due("the last cut", 6, shop.ofCell(0, 0, 2, 2));
    }

    /** "Returns how many pallets became DONE": none, some, all six that there can be. */
    static void promise12_noneSomeAll() {
        for (int minutes = 0; minutes <= 13; minutes++) {
            ToolCrib shop = new ToolCrib();
            Shop.write(shop, KIND, 3, MODE, 1, Z, 7);
            for (int n = 0; n < 6; n++) {
                shop.pallet(9);
                shop.plan(n, 0);
            }
            if (minutes > 0) {
                Shop.loaded(shop, 3, minutes);
            }
            int done = Math.min(6, minutes / 2);
            Check.due("lacks", Math.max(0, 12 - minutes), shop.lacks(3));
            Check.due("foresees", done, shop.foresees());
            Check.due("night", done, shop.night());
            Check.due("minute", Math.min(12, minutes), shop.minute());
            for (int n = 0; n < 6; n++) {
                Check.due("its place", n < done ? NONE : n - done, shop.ofPallet(n, PLACE));
                Check.due("its state", n < done ? DONE : PLANNED, shop.ofPallet(n, STATE));
                Check.due("its steps", n < done ? 2 : n == done ? minutes % 2 : 0, shop.ofPallet(n, GONE));
            }
            Check.due("foresees the next", 0, shop.foresees());
            Check.due("the next night", 0, shop.night());
        }
    }

    /** All that there can be: six pallets of 9, cut to 0 in all cells, by six tools in the magazine at once. */
    static void promise12_allThatThereIs() {
        ToolCrib shop = new ToolCrib();
        int all = Shop.shaveAll(shop);
        for (int n = 0; n < 6; n++) {
            shop.pallet(9);
            shop.plan(n, all);
        }
        for (int n = 0; n < 16; n++) {
            shop.tool(0, 500);
        }
        Check.due("lacks all", 6 * 1296, shop.lacks(0));
        int[] done = {2, 2, 2};
        int cut = 0;
        for (int night = 0; night < 3; night++) {
            for (int n = 0; n < 16; n++) {
                shop.load(n, false);
            }
            for (int n = 6 * night; n < Math.min(16, 6 * night + 6); n++) {
                shop.load(n, true);
            }
            int there = night < 2 ? 3000 : 2000;
            Check.due("lacks", Math.max(0, 6 * 1296 - cut - there), shop.lacks(0));
            Check.due("foresees", done[night], shop.foresees());
            Check.due("night", done[night], shop.night());
            cut = Math.min(6 * 1296, cut + there);
            Check.due("minute", cut, shop.minute());
        }
        Check.due("minutes left", 6 * 1296 - 15 * 500, shop.ofTool(15, 2));
        for (int n = 0; n < 6; n++) {
            Check.due("DONE", DONE, shop.ofPallet(n, STATE));
            Check.due("steps", 9 * (1 + 12 * 11 + 11 + 11), shop.ofPallet(n, GONE));
            Check.due("height", 0, shop.ofCell(n, 11, 11, 0));
        }
    }

    /** The longest way: 600 blocks, of which 19 are CALLs, and all others go from one side to the other. */
    static void promise12_theLongestWay() {
        ToolCrib shop = new ToolCrib();
        Shop.write(shop);
        Shop.write(shop);
        for (int n = 0; n < 15; n++) {
            Shop.append(shop, 0, X, 11, X, 0);
        }
        for (int n = 0; n < 19; n++) {
            shop.block(1, ToolCrib.CALL, 0);
        }
        for (int n = 0; n < 11; n++) {
            shop.block(1, Y, n % 2 == 0 ? 11 : 0);
        }
        shop.pallet(9);
        shop.pallet(9);
        Check.due("600 blocks are not too many", NONE, shop.prove(0, 1));
        shop.plan(0, 1);
        shop.plan(1, 1);
        Check.due("foresees", 2, shop.foresees());
        Check.due("night", 2, shop.night());
        Check.due("steps", (600 - 19) * 11, shop.ofPallet(0, GONE));
        Check.due("steps", (600 - 19) * 11, shop.ofPallet(1, GONE));
    }

    /** The last two cuts of a way of 562 blocks wait for their tools: the way there is gone but once. */
    static void promise12_farBehindTheBeginning() {
        ToolCrib shop = new ToolCrib();
        Shop.write(shop);
        for (int n = 0; n < 15; n++) {
            Shop.append(shop, 0, X, 11, X, 0);
        }
        Shop.write(shop, KIND, 2);
        for (int n = 0; n < 18; n++) {
            shop.block(1, ToolCrib.CALL, 0);
        }
        Shop.append(shop, 1, MODE, 1, Z, 8, Z, 7);
        shop.pallet(9);
        shop.plan(0, 1);
        int way = 18 * 30 * 11;
        Check.due("night", 0, shop.night());
        Check.due("steps", way, shop.ofPallet(0, GONE));
        Shop.loaded(shop, 2, 1);
        Check.due("night", 0, shop.night());
        Check.due("steps", way + 1, shop.ofPallet(0, GONE));
        Shop.loaded(shop, 2, 1);
        Check.due("night", 1, shop.night());
        Check.due("steps", way + 2, shop.ofPallet(0, GONE));
        Check.due("minute", 2, shop.minute());
    }

    /** "Tells at dusk what night() would return": exactly enough, one too few, and sisters together. */
    static void promise13_exactlyEnough() {
        for (int first = 1; first <= 4; first++) {
            for (int second = 1; second <= 4; second++) {
                ToolCrib shop = new ToolCrib();
                Shop.write(shop, KIND, 0, MODE, 1, Z, 7, Z, 9, KIND, 1, X, 1, Z, 6);
                shop.pallet(9);
                shop.plan(0, 0);
                Shop.loaded(shop, 0, 1);
                Shop.loaded(shop, 1, first);
                Shop.loaded(shop, 1, second);
                Check.due("not by the other kind", 0, shop.foresees());
                Shop.loaded(shop, 0, 1);
                int due = first + second >= 3 ? 1 : 0;
                Check.due("foresees", due, shop.foresees());
                Check.due("lacks", 1 - due, shop.lacks(1));
                Check.due("night", due, shop.night());
            }
        }
    }

    /** An empty queue: nothing to foresee, nothing lacking, though tools are there. */
    static void promise13_anEmptyQueue() {
        ToolCrib shop = new ToolCrib();
        Shop.loaded(shop, 0, 500);
        Shop.write(shop, KIND, 0, MODE, 1, Z, 0);
        shop.pallet(9);
        for (int n = 0; n < 2; n++) {
            Check.due("foresees", 0, shop.foresees());
            Check.due("lacks", 0, shop.lacks(0));
            Check.due("night", 0, shop.night());
            Check.due("minute", 9 * n, shop.minute());
            if (n == 0) {
                shop.plan(0, 0);
                Check.due("foresees", 1, shop.foresees());
                Check.due("night", 1, shop.night());
            }
        }
    }

    /** "less what is left of the lives of such tools in the magazine; at least 0": exactly 0, one more, one less. */
    static void promise14_atLeastNought() {
        int[] lives = {1, 8, 9, 10, 500};
        int[] lacks = {8, 1, 0, 0, 0};
        for (int n = 0; n < lives.length; n++) {
            ToolCrib shop = new ToolCrib();
            Shop.write(shop, KIND, 3, MODE, 1, Z, 0);
            shop.pallet(9);
            shop.plan(0, 0);
            Check.due("all", 9, shop.lacks(3));
            Shop.loaded(shop, 2, 500);
            shop.tool(3, 500);
            Check.due("other kinds, and tools outside, are nothing", 9, shop.lacks(3));
            Shop.loaded(shop, 3, lives[n]);
            Check.due("with a life of " + lives[n], lacks[n], shop.lacks(3));
            for (int kind = 0; kind < 3; kind++) {
                Check.due("no other kind lacks", 0, shop.lacks(kind));
            }
            shop.night();
            Check.due("a used up tool has nothing left", lacks[n], shop.lacks(3));
        }
    }

    /** "kind: 0 to 3": each of them lacks its own, none is below or above them. */
    static void promise14_kindsNoughtToThree() {
        for (int kind = 0; kind <= 3; kind++) {
            ToolCrib shop = new ToolCrib();
            Shop.write(shop, KIND, kind, MODE, 1, Z, 7);
            shop.pallet(9);
            shop.plan(0, 0);
            for (int asked = 0; asked <= 3; asked++) {
                Check.due("lacks of " + asked, asked == kind ? 2 : 0, shop.lacks(asked));
            }
            Check.refused(shop, Check.ARGUMENT, "one below", () -> shop.lacks(-1));
            Check.refused(shop, Check.ARGUMENT, "one above", () -> shop.lacks(4));
        }
    }

    /** "the steps .. that still cut": what was cut in the night counts no more, a step over it neither. */
    static void promise14_onlyWhatStillCuts() {
        ToolCrib shop = new ToolCrib();
        Shop.write(shop, KIND, 0, MODE, 1, Z, 8, X, 2, X, 0, Z, 7, X, 2);
        shop.pallet(9);
        shop.pallet(9);
        shop.plan(0, 0);
        shop.plan(1, 0);
        Check.due("6 each", 12, shop.lacks(0));
        for (int minutes = 1; minutes <= 12; minutes++) {
            int tool = Shop.loaded(shop, 0, 1);
            Check.due("lacks with one minute", 12 - minutes, shop.lacks(0));
            shop.night();
            Check.due("lacks behind it", 12 - minutes, shop.lacks(0));
            shop.load(tool, false);
        }
        Check.due("both DONE", DONE, shop.ofPallet(1, STATE));
    }

    /** "minutes: 1 to 500", "Returns the minute then". */
    static void promise15_oneToFiveHundred() {
        ToolCrib shop = new ToolCrib();
        int minute = 0;
        for (int minutes : new int[] {1, 2, 499, 500, 1, 500}) {
            Check.refused(shop, Check.ARGUMENT, "one below", () -> shop.idle(0));
            Check.refused(shop, Check.ARGUMENT, "one above", () -> shop.idle(501));
            minute += minutes;
            Check.due("idle", minute, shop.idle(minutes));
            Check.due("minute", minute, shop.minute());
        }
    }

    /** "if it would be above 1000000": each of the last minutes, by the least and the greatest that is taken. */
    static void promise15_aboveAMillion() {
        ToolCrib shop = new ToolCrib();
        for (int n = 0; n < 1999; n++) {
            shop.idle(500);
        }
        Check.due("999501", 999501, shop.idle(1));
        Check.refused(shop, Check.STATE, "1000001", () -> shop.idle(500));
        Check.due("1000000", 1000000, shop.idle(499));
        Check.refused(shop, Check.STATE, "1000001", () -> shop.idle(1));
        Check.refused(shop, Check.STATE, "1000500", () -> shop.idle(500));
        Check.refused(shop, Check.ARGUMENT, "the argument first", () -> shop.idle(501));
        Check.refused(shop, Check.ARGUMENT, "the argument first", () -> shop.idle(0));
        Shop.write(shop, KIND, 0, MODE, 1, Z, 8);
        shop.pallet(9);
        shop.plan(0, 0);
        Shop.loaded(shop, 0, 1);
        Check.due("a night still passes", 1, shop.night());
        Check.due("minute", 1000001, shop.minute());
        Check.due("warmth", 1, shop.warmth());
    }

    /** "what: 0 .. 4" of the cells at each end, "4 its clamp, 0 without one". */
    static void promise25_cellsAtEachEnd() {
        ToolCrib shop = new ToolCrib();
        shop.pallet(7);
        shop.clamp(0, 11, 0, 8);
        int[] want = {7, 7000, NONE, NONE, 0};
        for (int x = -1; x <= 12; x++) {
            for (int y = -1; y <= 12; y++) {
                int atX = x;
                int atY = y;
                if (x < 0 || x > 11 || y < 0 || y > 11) {
                    Check.refused(shop, Check.INDEX, x + " and " + y, () -> shop.ofCell(0, atX, atY, 0));
                    continue;
                }
                for (int what = 0; what <= 4; what++) {
                    int due = what == 4 && x == 11 && y == 0 ? 8 : want[what];
                    Check.due("what " + what, due, shop.ofCell(0, x, y, what));
                }
            }
        }
        Check.refused(shop, Check.ARGUMENT, "behind the last", () -> shop.ofCell(0, 11, 11, 5));
        Check.refused(shop, Check.ARGUMENT, "ahead of the first", () -> shop.ofCell(0, 0, 0, -1));
        Check.refused(shop, Check.INDEX, "the cell first", () -> shop.ofCell(0, 12, 0, 5));
        Check.refused(shop, Check.INDEX, "the pallet first", () -> shop.ofCell(1, 0, 0, -1));
    }

    /** "3 how it was judged by its latest paper, NONE without one", of RAW, PLANNED and DONE pallets. */
    static void promise26_withoutAPaper() {
        ToolCrib shop = new ToolCrib();
        Shop.write(shop, KIND, 0, MODE, 1, Z, 8);
        for (int n = 0; n < 3; n++) {
            shop.pallet(9);
        }
        shop.plan(0, 0);
        Shop.loaded(shop, 0, 1);
        shop.night();
        shop.plan(1, 0);
        int[] states = {DONE, PLANNED, RAW};
        for (int n = 0; n < 3; n++) {
            Check.due("state", states[n], shop.ofPallet(n, STATE));
            Check.due("judged", NONE, shop.ofPallet(n, JUDGED));
        }
        Shop.drawn(shop, 0, 0, 8, 99);
        shop.calibrate(0, 0);
        shop.judge(0, 0, 0);
        Check.due("ACCEPTED", ToolCrib.ACCEPTED, shop.ofPallet(0, JUDGED));
        Check.due("the others are not", NONE, shop.ofPallet(1, JUDGED));
        Check.refused(shop, Check.ARGUMENT, "behind the last", () -> shop.ofPallet(0, 4));
        Check.refused(shop, Check.ARGUMENT, "ahead of the first", () -> shop.ofPallet(0, -1));
        Check.refused(shop, Check.INDEX, "the pallet first", () -> shop.ofPallet(3, 4));
    }
}
