/** Promises 20, 27 and 28, and how allowances (19) run out: papers. */
final class PapersTest {
    private static final int ACCEPTED = ToolCrib.ACCEPTED, DOUBTFUL = ToolCrib.DOUBTFUL, REJECTED = ToolCrib.REJECTED;

    /** Its size at x is 5000 and the error of the map at x. */
    private static ToolCrib cutAt(int... errors) {
        ToolCrib shop = new ToolCrib();
        Shop.write(shop, ToolCrib.KIND, 0, ToolCrib.MODE, 1, ToolCrib.Z, 6, ToolCrib.Z, 5);
        shop.pallet(6);
        int program = shop.program();
        int tool = -1;
        for (int x = 0; x < errors.length; x++) {
            shop.map(x, errors[x]);
        }
        Shop.append(shop, program, ToolCrib.CALL, 0, ToolCrib.X, 11);
        // a minute is idled behind each cut, so that it stays cold, and each tool cuts once, so that none wears
        shop.plan(0, program);
        for (int x = 0; x < 12; x++) {
            if (tool >= 0) {
                shop.load(tool, false);
            }
            tool = Shop.loaded(shop, 0, 1);
            shop.night();
            shop.idle(1);
        }
        return shop;
    }

    static void promise20_bounds() {
        // tolerance 20, doubt 5
        int[] aways = {0, 15, 16, 25, 26, 50};
        int[] verdicts = {ACCEPTED, ACCEPTED, DOUBTFUL, DOUBTFUL, REJECTED, REJECTED};
        for (int n = 0; n < aways.length; n++) {
            for (int sign = -1; sign <= 1; sign += 2) {
                ToolCrib shop = cutAt(0, sign * aways[n]);
                Shop.drawn(shop, 1, 0, 5, 20);
                shop.calibrate(0, 5);
                Check.due("paper", 0, shop.judge(0, 0, 0));
                Check.due("away", sign * aways[n], shop.ofPaper(0, 5));
                Check.due("judged " + aways[n], verdicts[n], shop.ofPaper(0, 2));
                Check.due("anew", verdicts[n], shop.judgeAnew(0));
                Check.due("of the pallet", verdicts[n], shop.ofPallet(0, 3));
            }
        }
    }

    static void promise20_moreDoubtThanTolerance() {
        ToolCrib shop = cutAt(0, 6, 7);
        Shop.drawn(shop, 0, 0, 5, 4);
        Shop.drawn(shop, 1, 0, 5, 1);
        Shop.drawn(shop, 2, 0, 5, 1);
        Shop.drawn(shop, 0, 0, 5, 5);
        shop.calibrate(0, 5);
        for (int n = 0; n < 4; n++) {
            shop.judge(0, n, 0);
        }
        Check.due("not away, but in doubt", DOUBTFUL, shop.ofPaper(0, 2));
        Check.due("6 is 1 and 5", DOUBTFUL, shop.ofPaper(1, 2));
        Check.due("7 is more", REJECTED, shop.ofPaper(2, 2));
        Check.due("0 is 5 less 5", ACCEPTED, shop.ofPaper(3, 2));
    }

    static void promise20_theWorstFeature() {
        ToolCrib shop = cutAt(0, 16, 26, -16, -26);
        Shop.drawn(shop, 0, 0, 5, 20, 1, 0, 5, 20, 0, 0, 5, 20);
        Shop.drawn(shop, 2, 0, 5, 20, 1, 0, 5, 20, 0, 0, 5, 20);
        Shop.drawn(shop, 3, 0, 5, 20, 4, 0, 5, 20);
        Shop.drawn(shop, 0, 0, 5, 20, 0, 0, 4, 20);
        shop.calibrate(0, 5);
        int[] verdicts = {DOUBTFUL, REJECTED, REJECTED, REJECTED};
        for (int n = 0; n < 4; n++) {
            shop.judge(0, n, 0);
            Check.due("drawing " + n, verdicts[n], shop.ofPaper(n, 2));
        }
        Check.due("a whole height away", 1000, shop.ofPaper(3, 6));
    }

    static void promise20_whatIsOnAPaper() {
        ToolCrib shop = cutAt(0, 16, 26, -16, -26, 9);
        Shop.drawn(shop, 0, 0, 5, 20);
        Shop.drawn(shop, 1, 0, 5, 20, 2, 0, 5, 20, 3, 0, 5, 20, 4, 0, 5, 20, 5, 0, 5, 20, 0, 1, 6, 20);
        shop.calibrate(2, 11);
        Check.due("paper", 0, shop.judge(0, 1, 2));
        shop.idle(100);
        Check.due("paper", 1, shop.judge(0, 0, 2));
        int now = shop.minute();
        int[] first = {0, 1, DOUBTFUL, now - 100, 11, 16, 26, -16, -26, 9, 0};
        int[] second = {0, 0, ACCEPTED, now, 11, 1, 0, 0, 0, 0, 0};
        for (int what = 0; what <= 10; what++) {
            Check.due("paper 0, " + what, first[what], shop.ofPaper(0, what));
            Check.due("paper 1, " + what, second[what], shop.ofPaper(1, what));
        }
        Check.due("the latest paper of the pallet", ACCEPTED, shop.ofPallet(0, 3));
    }

    static void promise20_wrongCalls() {
        ToolCrib shop = new ToolCrib();
        int part = Shop.doneUncut(shop, 5);
        int raw = shop.pallet(5);
        int drawing = Shop.drawn(shop, 0, 0, 5, 20);
        int empty = shop.drawing();
        shop.calibrate(0, 0);
        for (int n : new int[] {-1, 6, Integer.MIN_VALUE, Integer.MAX_VALUE}) {
            Check.refused(shop, Check.INDEX, "pallet " + n, () -> shop.judge(n, drawing, 0));
            Check.refused(shop, Check.INDEX, "drawing " + n, () -> shop.judge(part, n, 0));
            Check.refused(shop, Check.INDEX, "gauge " + n, () -> shop.judge(part, drawing, n));
            Check.refused(shop, Check.INDEX, "the gauge first", () -> shop.judge(raw, empty, n));
        }
        Check.refused(shop, Check.STATE, "RAW", () -> shop.judge(raw, drawing, 0));
        Check.refused(shop, Check.STATE, "without features", () -> shop.judge(part, empty, 0));
        Check.refused(shop, Check.STATE, "out of date", () -> shop.judge(part, drawing, 1));
        int program = Shop.write(shop, ToolCrib.KIND, 0, ToolCrib.MODE, 1, ToolCrib.Z, 4);
        shop.plan(raw, program);
        Check.refused(shop, Check.STATE, "PLANNED", () -> shop.judge(raw, drawing, 0));
        Check.due("none was written", 0, shop.judge(part, drawing, 0));
    }

    static void promise20_thirtyPapers() {
        ToolCrib shop = new ToolCrib();
        int part = Shop.doneUncut(shop, 5);
        Shop.drawn(shop, 0, 0, 5, 20);
        Shop.drawn(shop, 0, 0, 4, 20);
        shop.calibrate(0, 0);
        for (int n = 0; n < 30; n++) {
            Check.due("paper", n, shop.judge(part, n % 2, 0));
        }
        Check.refused(shop, Check.STATE, "a 31st", () -> shop.judge(part, 0, 0));
        for (int n = 0; n < 30; n++) {
            Check.due("paper " + n, n % 2 == 0 ? ACCEPTED : REJECTED, shop.ofPaper(n, 2));
        }
    }

    static void promise19_forSoManyPapers() {
        ToolCrib shop = cutAt(0, 30);
        Shop.drawn(shop, 1, 0, 5, 20, 1, 0, 5, 30);
        Shop.drawn(shop, 1, 0, 5, 20);
        shop.calibrate(0, 0);
        judged(shop, 0, REJECTED);
        shop.allow(0, 0, 10, 2);
        judged(shop, 0, ACCEPTED);
        judged(shop, 1, REJECTED);
        judged(shop, 0, ACCEPTED);
        judged(shop, 0, REJECTED);
        shop.allow(0, 0, 9, 9);
        judged(shop, 0, REJECTED);
        shop.allow(0, 0, 10, 1);
        judged(shop, 0, ACCEPTED);
        judged(shop, 0, REJECTED);
        Check.due("what ran out is no more there", 25, shop.allow(0, 0, 5, 1));
        shop.allow(0, 0, 99, 9);
        shop.allow(0, 0, 0, 1);
        judged(shop, 0, REJECTED);
        judged(shop, 0, REJECTED);
    }

    static void promise19_refusedJudgingsSpendNothing() {
        ToolCrib shop = cutAt(0, 30);
        Shop.drawn(shop, 1, 0, 5, 20);
        shop.allow(0, 0, 10, 1);
        Check.refused(shop, Check.STATE, "out of date", () -> shop.judge(0, 0, 0));
        shop.calibrate(0, 0);
        judged(shop, 0, ACCEPTED);
        judged(shop, 0, REJECTED);
    }

    private static void judged(ToolCrib shop, int drawing, int want) {
        Check.due("drawing " + drawing, want, shop.ofPaper(shop.judge(0, drawing, 0), 2));
    }

    static void promise27_whatOfAPaper() {
        ToolCrib shop = new ToolCrib();
        int part = Shop.doneUncut(shop, 5);
        Shop.drawn(shop, 0, 0, 5, 20);
        shop.calibrate(0, 0);
        shop.judge(part, 0, 0);
        for (int what : new int[] {-1, 11, Integer.MIN_VALUE, Integer.MAX_VALUE}) {
            Check.refused(shop, Check.ARGUMENT, "what " + what, () -> shop.ofPaper(0, what));
            Check.refused(shop, Check.INDEX, "the paper first", () -> shop.ofPaper(1, what));
        }
        Check.refused(shop, Check.INDEX, "paper -1", () -> shop.ofPaper(-1, 0));
    }

    static void promise28_ofThen() {
        ToolCrib shop = cutAt(0, 16);
        Shop.drawn(shop, 1, 0, 5, 20);
        shop.calibrate(0, 5);
        judged(shop, 0, DOUBTFUL);
        shop.allow(0, 0, 50, 1);
        judged(shop, 0, ACCEPTED);
        shop.calibrate(0, 30);
        shop.feature(0, 2, 0, 0, 1);
        judged(shop, 0, REJECTED);
        shop.allow(0, 1, 99, 9);
        shop.calibrate(0, 0);
        int[] verdicts = {DOUBTFUL, ACCEPTED, REJECTED};
        for (int n = 0; n < 3; n++) {
            Check.due("anew", verdicts[n], shop.judgeAnew(n));
            Check.due("on the paper", verdicts[n], shop.ofPaper(n, 2));
        }
        Check.due("a feature of later", 0, shop.ofPaper(0, 6));
        Check.refused(shop, Check.INDEX, "paper 3", () -> shop.judgeAnew(3));
        Check.refused(shop, Check.INDEX, "paper -1", () -> shop.judgeAnew(-1));
    }
}
