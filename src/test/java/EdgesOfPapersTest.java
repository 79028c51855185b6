/** Each sentence on gauges, drawings and papers that names a bound: Terms, promises 16 to 20, 26, 27 and 28. */
final class EdgesOfPapersTest {
    private static final int MODE = ToolCrib.MODE, X = ToolCrib.X, Z = ToolCrib.Z, KIND = ToolCrib.KIND,
            NONE = ToolCrib.NONE;
    private static final int ACCEPTED = ToolCrib.ACCEPTED, DOUBTFUL = ToolCrib.DOUBTFUL, REJECTED = ToolCrib.REJECTED;
    private static final int VERDICT = 2, MINUTE = 3, DOUBT = 4, AWAY = 5;

    /** Pallet 0, DONE, never cut, of the height 5; drawing 0 has its one feature there. */
    private static ToolCrib uncut(int tolerance) {
        ToolCrib shop = new ToolCrib();
        Shop.doneUncut(shop, 5);
        Shop.drawn(shop, 0, 0, 5, tolerance);
        return shop;
    }

    /** "There are the gauges 0 to 3, out of date at first". */
    static void promise16_gaugesNoughtToThree() {
        ToolCrib shop = uncut(99);
        for (int gauge = 0; gauge <= 3; gauge++) {
            int used = gauge;
            Check.refused(shop, Check.STATE, "out of date", () -> shop.judge(0, 0, used));
            Check.due("calibrate", 999, shop.calibrate(gauge, gauge));
            Check.due("good at once", gauge, shop.judge(0, 0, gauge));
            Check.due("its own doubt", gauge, shop.ofPaper(gauge, DOUBT));
        }
        for (int gauge : new int[] {-1, 4}) {
            Check.refused(shop, Check.INDEX, "gauge " + gauge, () -> shop.calibrate(gauge, 0));
            Check.refused(shop, Check.INDEX, "no gauge, and a doubt of 31", () -> shop.calibrate(gauge, 31));
            Check.refused(shop, Check.INDEX, "gauge " + gauge, () -> shop.judge(0, 0, gauge));
        }
    }

    /** "doubt: 0 to 30"; "Returns the last minute in which it is good". */
    static void promise16_doubts() {
        ToolCrib shop = uncut(99);
        int[] doubts = {0, 1, 29, 30};
        for (int n = 0; n < 4; n++) {
            Check.refused(shop, Check.ARGUMENT, "one below", () -> shop.calibrate(2, -1));
            Check.refused(shop, Check.ARGUMENT, "one above", () -> shop.calibrate(2, 31));
            Check.due("calibrate", 999 + 3 * n, shop.calibrate(2, doubts[n]));
            shop.judge(0, 0, 2);
            Check.due("the doubt", doubts[n], shop.ofPaper(n, DOUBT));
            Check.refused(shop, Check.ARGUMENT, "one above", () -> shop.calibrate(2, 31));
            shop.idle(3);
            shop.calibrate(1, 7);
        }
        shop.judge(0, 0, 2);
        Check.due("refused doubts, and those of others, are not its", 30, shop.ofPaper(4, DOUBT));
    }

    /** "good for the next 1000 minutes, that of the calibrating with them"; idle minutes and those of nights are such. */
    static void promise16_minutesOfNightsToo() {
        ToolCrib shop = uncut(99);
        shop.pallet(9);
        shop.plan(1, Shop.write(shop, KIND, 0, MODE, 1, Z, 0, X, 11));
        shop.idle(10);
        Check.due("the last good minute", 1009, shop.calibrate(0, 0));
        shop.idle(500);
        shop.idle(480);
        Shop.loaded(shop, 0, 19);
        shop.night();
        Check.due("the last good minute is this", 1009, shop.minute());
        Check.due("it is good", 0, shop.judge(0, 0, 0));
        Check.due("9 more", 9, shop.ofPaper(0, AWAY));
        Shop.loaded(shop, 0, 1);
        shop.night();
        Check.due("minute", 1010, shop.minute());
        Check.refused(shop, Check.STATE, "out of date", () -> shop.judge(0, 0, 0));
        shop.idle(500);
        Check.refused(shop, Check.STATE, "still out of date", () -> shop.judge(0, 0, 0));
        Check.due("anew", 1510 + 999, shop.calibrate(0, 1));
        Check.due("good", 1, shop.judge(0, 0, 0));
        Check.due("nothing more", 0, shop.ofPaper(1, AWAY));
    }

    /** "and 1 more for each 100 minutes since it was calibrated": ahead of each hundred, and at it. */
    static void promise16_eachHundredMinutes() {
        ToolCrib shop = uncut(99);
        shop.idle(57);
        shop.calibrate(3, 0);
        int papers = 0;
        for (int hundred = 0; hundred <= 9; hundred++) {
            Check.due("at " + hundred + " hundred", papers, shop.judge(0, 0, 3));
            Check.due("more", hundred, shop.ofPaper(papers++, AWAY));
            shop.idle(99);
            Check.due("1 ahead of the next", papers, shop.judge(0, 0, 3));
            Check.due("no more yet", hundred, shop.ofPaper(papers++, AWAY));
            shop.idle(1);
        }
        Check.refused(shop, Check.STATE, "1000 minutes", () -> shop.judge(0, 0, 3));
    }

    /** "Drawings are numbered from 0, at most 4". */
    static void promise17_theFourthIsThereAndNoFifth() {
        ToolCrib shop = new ToolCrib();
        int part = Shop.doneUncut(shop, 5);
        shop.calibrate(0, 0);
        for (int n = 0; n < 4; n++) {
            int next = n;
            Check.refused(shop, Check.INDEX, "not begun yet", () -> shop.feature(next, 0, 0, 5, 1));
            Check.refused(shop, Check.INDEX, "not begun yet", () -> shop.allow(next, 0, 1, 1));
            Check.refused(shop, Check.INDEX, "not begun yet", () -> shop.judge(part, next, 0));
            Check.due("its number", n, shop.drawing());
            Check.refused(shop, Check.STATE, "without features", () -> shop.judge(part, next, 0));
            Check.refused(shop, Check.INDEX, "without features", () -> shop.allow(next, 0, 1, 1));
        }
        Check.refused(shop, Check.STATE, "there are 4", shop::drawing);
        Check.refused(shop, Check.INDEX, "the fifth", () -> shop.feature(4, 0, 0, 5, 1));
        Check.refused(shop, Check.INDEX, "the fifth", () -> shop.allow(4, 0, 1, 1));
        Check.refused(shop, Check.INDEX, "the fifth", () -> shop.judge(part, 4, 0));
        Check.due("the last one is a drawing like others", 1, shop.feature(3, 11, 11, 5, 1));
        Check.due("judge", 0, shop.judge(part, 3, 0));
    }

    /** "height: 0 to 9", "tolerance: 1 to 99", "no such .. cell": the least and the greatest, one below, one above. */
    static void promise18_eachBound() {
        int[][] features = {{0, 0, 0, 1}, {11, 0, 9, 99}, {0, 11, 9, 1}, {11, 11, 0, 99}};
        for (int[] f : features) {
            ToolCrib shop = new ToolCrib();
            shop.drawing();
            Check.due("feature", 1, shop.feature(0, f[0], f[1], f[2], f[3]));
            for (int off : new int[] {-1, 12}) {
                Check.refused(shop, Check.INDEX, "x", () -> shop.feature(0, off, f[1], f[2], f[3]));
                Check.refused(shop, Check.INDEX, "y", () -> shop.feature(0, f[0], off, f[2], f[3]));
                Check.refused(shop, Check.INDEX, "x, and the height", () -> shop.feature(0, off, f[1], 10, f[3]));
                Check.refused(shop, Check.INDEX, "y, and the tolerance", () -> shop.feature(0, f[0], off, f[2], 0));
            }
            for (int height : new int[] {-1, 10}) {
                Check.refused(shop, Check.ARGUMENT, "height", () -> shop.feature(0, f[0], f[1], height, f[3]));
            }
            for (int tolerance : new int[] {0, 100}) {
                Check.refused(shop, Check.ARGUMENT, "tolerance", () -> shop.feature(0, f[0], f[1], f[2], tolerance));
            }
            Check.due("the refused ones were not added", 2, shop.feature(0, f[0], f[1], f[2], f[3]));
            Check.due("its tolerance", f[3], shop.allow(0, 1, 0, 1));
        }
    }

    /** "a drawing has at most 6 features": all six are measured, the seventh is refused, also behind papers. */
    static void promise18_sixAreMeasured() {
        ToolCrib shop = new ToolCrib();
        int part = Shop.doneUncut(shop, 9);
        shop.drawing();
        shop.calibrate(0, 0);
        for (int n = 0; n < 6; n++) {
            Check.due("how many", n + 1, shop.feature(0, 0, n, 9 - n, 99));
            int paper = shop.judge(part, 0, 0);
            for (int place = 0; place < 6; place++) {
                Check.due("away", place <= n ? 1000 * place : 0, shop.ofPaper(paper, AWAY + place));
            }
        }
        Check.refused(shop, Check.STATE, "it has 6", () -> shop.feature(0, 0, 0, 9, 99));
        for (int place = 0; place < 6; place++) {
            Check.due("the first paper is as it was", 0, shop.ofPaper(0, AWAY + place));
        }
    }

    /** "feature: its place in the drawing, from 0"; "more: 0 to 99"; "papers: 1 to 9"; "Returns the tolerance then". */
    static void promise19_eachBound() {
        ToolCrib shop = new ToolCrib();
        shop.drawing();
        for (int n = 0; n < 6; n++) {
            int behind = n;
            Check.refused(shop, Check.INDEX, "behind the last", () -> shop.allow(0, behind, 1, 1));
            Check.refused(shop, Check.INDEX, "behind it, and papers", () -> shop.allow(0, behind, 1, 0));
            shop.feature(0, 0, 0, 5, 90 + n);
            Check.due("none", 90 + n, shop.allow(0, n, 0, 1));
            Check.due("most", 90 + n + 99, shop.allow(0, n, 99, 9));
            Check.refused(shop, Check.INDEX, "ahead of the first", () -> shop.allow(0, -1, 1, 1));
            Check.refused(shop, Check.ARGUMENT, "one below", () -> shop.allow(0, behind, -1, 1));
            Check.refused(shop, Check.ARGUMENT, "one above", () -> shop.allow(0, behind, 100, 1));
            Check.refused(shop, Check.ARGUMENT, "no papers", () -> shop.allow(0, behind, 1, 0));
            Check.refused(shop, Check.ARGUMENT, "ten papers", () -> shop.allow(0, behind, 1, 10));
        }
        Check.refused(shop, Check.INDEX, "the seventh", () -> shop.allow(0, 6, 1, 1));
    }

    /** "for so many papers from then on": each number of papers, not one more. */
    static void promise19_soManyPapersAndNotOneMore() {
        for (int papers = 1; papers <= 9; papers++) {
            ToolCrib shop = uncut(1);
            shop.calibrate(0, 0);
            shop.idle(200);
            judged(shop, 0, REJECTED);
            Check.due("the tolerance then", 2, shop.allow(0, 0, 1, papers));
            for (int n = 0; n < papers; n++) {
                judged(shop, 0, ACCEPTED);
            }
            judged(shop, 0, REJECTED);
            judged(shop, 0, REJECTED);
        }
    }

    /** "in place of what was allowed": the tolerance, and the papers, also more or fewer than there were. */
    static void promise19_inPlaceOfWhatWasAllowed() {
        ToolCrib shop = uncut(1);
        shop.calibrate(0, 0);
        shop.idle(300);
        shop.allow(0, 0, 99, 9);
        Check.due("in place of 99", 3, shop.allow(0, 0, 2, 1));
        judged(shop, 0, ACCEPTED);
        judged(shop, 0, REJECTED);
        shop.allow(0, 0, 2, 2);
        judged(shop, 0, ACCEPTED);
        shop.allow(0, 0, 2, 3);
        judged(shop, 0, ACCEPTED);
        judged(shop, 0, ACCEPTED);
        judged(shop, 0, ACCEPTED);
        judged(shop, 0, REJECTED);
        shop.allow(0, 0, 2, 9);
        Check.due("none, in place of 2", 1, shop.allow(0, 0, 0, 9));
        judged(shop, 0, REJECTED);
    }

    /** Refused allowances are none; papers of other drawings, and judgings that are refused, use none up. */
    static void promise19_whatUsesNoneUp() {
        ToolCrib shop = uncut(1);
        int other = Shop.drawn(shop, 0, 0, 5, 1);
        int raw = shop.pallet(5);
        shop.allow(0, 0, 2, 1);
        Check.refused(shop, Check.ARGUMENT, "not in its place", () -> shop.allow(0, 0, 100, 9));
        Check.refused(shop, Check.ARGUMENT, "not in its place", () -> shop.allow(0, 0, 0, 10));
        Check.refused(shop, Check.STATE, "no good gauge", () -> shop.judge(0, 0, 0));
        shop.calibrate(0, 0);
        shop.idle(300);
        Check.refused(shop, Check.STATE, "RAW", () -> shop.judge(raw, 0, 0));
        Check.refused(shop, Check.INDEX, "no such gauge", () -> shop.judge(0, 0, 4));
        judged(shop, other, REJECTED);
        judged(shop, 0, ACCEPTED);
        judged(shop, 0, REJECTED);
    }

    /** An allowance is of its feature alone; each feature uses up its own, in the same paper. */
    static void promise19_ofEachFeature() {
        ToolCrib shop = new ToolCrib();
        Shop.doneUncut(shop, 5);
        Shop.drawn(shop, 0, 0, 5, 1, 1, 0, 5, 1);
        shop.calibrate(0, 0);
        shop.idle(200);
        shop.allow(0, 0, 1, 2);
        judged(shop, 0, REJECTED);
        shop.allow(0, 1, 1, 2);
        judged(shop, 0, ACCEPTED);
        judged(shop, 0, REJECTED);
        shop.allow(0, 0, 1, 1);
        judged(shop, 0, REJECTED);
        shop.allow(0, 0, 1, 9);
        judged(shop, 0, REJECTED);
        shop.allow(0, 1, 1, 9);
        judged(shop, 0, ACCEPTED);
    }

    private static void judged(ToolCrib shop, int drawing, int want) {
        int paper = shop.judge(0, drawing, 0);
        Check.due("judged", want, shop.ofPaper(paper, VERDICT));
        Check.due("anew", want, shop.judgeAnew(paper));
    }

    /** "REJECTED .. by more than its tolerance and the doubt"; "ACCEPTED .. by its tolerance less the doubt, or less". */
    static void promise20_eachToleranceAndDoubt() {
        for (int sign = -1; sign <= 1; sign += 2) {
            int[] errors = new int[12];
            for (int x = 0; x < 12; x++) {
                errors[x] = sign * x;
            }
            for (int tolerance = 1; tolerance <= 9; tolerance += 4) {
                for (int doubt = 0; doubt <= 6; doubt++) {
                    bands(coldRow(errors), errors, tolerance, doubt);
                }
            }
        }
    }

    private static void bands(ToolCrib shop, int[] errors, int tolerance, int doubt) {
        shop.calibrate(1, doubt);
        int[] xs = {tolerance - doubt, tolerance - doubt + 1, tolerance + doubt, tolerance + doubt + 1};
        for (int n = 0; n < 4; n++) {
            int x = Math.max(0, Math.min(11, xs[n]));
            Shop.drawn(shop, x, 0, 1, tolerance);
            int paper = shop.judge(0, n, 1);
            int want = x > tolerance + doubt ? REJECTED : x <= tolerance - doubt ? ACCEPTED : DOUBTFUL;
            Check.due("away", errors[x], shop.ofPaper(paper, AWAY));
            Check.due(x + " of " + tolerance + " and " + doubt, want, shop.ofPaper(paper, VERDICT));
            Check.due("anew", want, shop.judgeAnew(paper));
            Check.due("of the pallet", want, shop.ofPallet(0, 3));
        }
    }

    /** A row at y 0 with stock of 2 cut to 1, each cell by a new tool and cold: pallet 0. */
    private static ToolCrib coldRow(int... errors) {
        ToolCrib shop = new ToolCrib();
        for (int x = 0; x < 12; x++) {
            shop.map(x, errors[x]);
        }
        shop.pallet(2);
        shop.plan(0, Shop.write(shop, KIND, 0, MODE, 1, Z, 1, X, 11));
        for (int x = 0; x < 12; x++) {
            int tool = Shop.loaded(shop, 0, 1);
            shop.night();
            shop.load(tool, false);
            shop.idle(1);
        }
        return shop;
    }

    /** The tolerance is the greatest there is: 99, 99 more, and a doubt of 30. */
    static void promise20_theWidestBand() {
        ToolCrib shop = coldRow(50, -50, 50, 50, 50, 50, 50, 50, 50, 50, 50, 50);
        Shop.drawn(shop, 0, 0, 1, 99, 1, 0, 1, 20, 5, 5, 2, 1);
        Shop.drawn(shop, 0, 0, 1, 80, 1, 0, 1, 80);
        Shop.drawn(shop, 0, 0, 1, 79);
        Shop.drawn(shop, 1, 0, 1, 19);
        shop.calibrate(0, 30);
        judged(shop, 0, DOUBTFUL);
        judged(shop, 1, ACCEPTED);
        judged(shop, 2, DOUBTFUL);
        judged(shop, 3, REJECTED);
        shop.allow(0, 0, 99, 9);
        shop.allow(0, 1, 60, 9);
        judged(shop, 0, DOUBTFUL);
        shop.allow(0, 2, 29, 9);
        judged(shop, 0, ACCEPTED);
        shop.allow(0, 1, 59, 9);
        judged(shop, 0, DOUBTFUL);
        shop.allow(3, 0, 1, 1);
        judged(shop, 3, DOUBTFUL);
    }

    /** "No part is accepted that, as it is measured, is beyond the tolerances": what the gauge has more counts too. */
    static void promise20_asItIsMeasured() {
        ToolCrib shop = coldRow(-3, 3, 0, 0, 0, 0, 0, 0, 0, 0, 0, 0);
        Shop.drawn(shop, 0, 0, 1, 2);
        Shop.drawn(shop, 1, 0, 1, 3);
        shop.calibrate(0, 0);
        judged(shop, 0, REJECTED);
        judged(shop, 1, ACCEPTED);
        shop.idle(100);
        judged(shop, 0, ACCEPTED);
        judged(shop, 1, REJECTED);
        Check.due("2 below", -2, shop.ofPaper(2, AWAY));
        Check.due("4 above", 4, shop.ofPaper(3, AWAY));
    }

    /** "REJECTED, if some feature ..; ACCEPTED, if each is ..; DOUBTFUL otherwise": the one that decides, at each place. */
    static void promise20_theOneThatDecides() {
        for (int place = 0; place < 6; place++) {
            ToolCrib shop = coldRow(0, 8, 13, 0, 0, 0, 0, 0, 0, 0, 0, 0);
            for (int drawing = 0; drawing < 3; drawing++) {
                shop.drawing();
                for (int n = 0; n < 6; n++) {
                    shop.feature(drawing, n == place ? drawing : n == (place + 1) % 6 && drawing == 2 ? 1 : 0, 0, 1, 10);
                }
            }
            shop.calibrate(0, 2);
            int[] want = {ACCEPTED, ACCEPTED, REJECTED};
            for (int drawing = 0; drawing < 3; drawing++) {
                judged(shop, drawing, want[drawing]);
            }
            shop.calibrate(0, 3);
            want = new int[] {ACCEPTED, DOUBTFUL, DOUBTFUL};
            for (int drawing = 0; drawing < 3; drawing++) {
                judged(shop, drawing, want[drawing]);
            }
        }
    }

    /** "papers are numbered from 0, at most 30": the last one, and what is behind it. */
    static void promise20_theThirtiethIsThereAndNoMore() {
        ToolCrib shop = uncut(99);
        shop.calibrate(3, 30);
        for (int n = 0; n < 30; n++) {
            int next = n;
            Check.refused(shop, Check.INDEX, "not written yet", () -> shop.ofPaper(next, 0));
            Check.refused(shop, Check.INDEX, "not written yet", () -> shop.judgeAnew(next));
            Check.due("its number", n, shop.judge(0, 0, 3));
            shop.idle(1);
        }
        shop.allow(0, 0, 0, 1);
        Check.refused(shop, Check.STATE, "there are 30", () -> shop.judge(0, 0, 3));
        Check.refused(shop, Check.INDEX, "the 31st", () -> shop.ofPaper(30, 0));
        Check.refused(shop, Check.INDEX, "the 31st", () -> shop.judgeAnew(30));
        Check.due("the last one is a paper like others", 29, shop.ofPaper(29, MINUTE));
        Check.due("judged", ACCEPTED, shop.judgeAnew(29));
    }

    /** "if the pallet is not DONE, the drawing has no features, the gauge is not good, or there are 30 papers": by itself. */
    static void promise20_eachReasonByItself() {
        ToolCrib shop = uncut(99);
        int raw = shop.pallet(5);
        int planned = shop.pallet(5);
        int program = Shop.write(shop, KIND, 0, MODE, 1, Z, 3);
        int empty = shop.drawing();
        shop.calibrate(0, 0);
        shop.plan(planned, program);
        Check.refused(shop, Check.STATE, "RAW", () -> shop.judge(raw, 0, 0));
        Check.refused(shop, Check.STATE, "PLANNED", () -> shop.judge(planned, 0, 0));
        Shop.loaded(shop, 0, 1);
        shop.night();
        Check.refused(shop, Check.STATE, "in its midst", () -> shop.judge(planned, 0, 0));
        Check.refused(shop, Check.STATE, "no features", () -> shop.judge(0, empty, 0));
        Check.refused(shop, Check.STATE, "not good", () -> shop.judge(0, 0, 1));
        Check.due("none of them", 0, shop.judge(0, 0, 0));
        Shop.loaded(shop, 0, 1);
        shop.night();
        Check.due("DONE", 1, shop.judge(planned, 0, 0));
    }

    /** "what: 0 .. 10"; "5 to 10 by how much the features 0 to 5 are away, 0 without such a one". */
    static void promise27_allOfAPaper() {
        ToolCrib shop = coldRow(-1, 2, -3, 4, -5, 6, 0, 0, 0, 0, 0, 0);
        Shop.drawn(shop, 0, 0, 1, 9);
        shop.drawing();
        for (int x = 0; x < 6; x++) {
            shop.feature(1, x, 0, 1, 9);
        }
        int now = shop.minute();
        shop.calibrate(0, 4);
        shop.judge(0, 1, 0);
        shop.idle(1);
        shop.judge(0, 0, 0);
        int[] first = {0, 1, DOUBTFUL, now, 4, -1, 2, -3, 4, -5, 6};
        int[] second = {0, 0, ACCEPTED, now + 1, 4, -1, 0, 0, 0, 0, 0};
        for (int what = 0; what <= 10; what++) {
            Check.due("paper 0, " + what, first[what], shop.ofPaper(0, what));
            Check.due("paper 1, " + what, second[what], shop.ofPaper(1, what));
        }
        for (int what : new int[] {-1, 11}) {
            Check.refused(shop, Check.ARGUMENT, "what " + what, () -> shop.ofPaper(1, what));
            Check.refused(shop, Check.INDEX, "the paper first", () -> shop.ofPaper(2, what));
            Check.refused(shop, Check.INDEX, "the paper first", () -> shop.ofPaper(-1, what));
        }
    }

    /** The number of the pallet, and of the drawing: the last that there can be. */
    static void promise27_theLastPalletAndDrawing() {
        ToolCrib shop = new ToolCrib();
        shop.program();
        for (int n = 0; n < 6; n++) {
            shop.pallet(n + 1);
            shop.plan(n, 0);
        }
        shop.night();
        for (int n = 0; n < 4; n++) {
            Shop.drawn(shop, 11, 11, 6, 1);
        }
        shop.calibrate(3, 0);
        for (int pallet = 0; pallet < 6; pallet++) {
            int paper = shop.judge(pallet, 3 - pallet % 4, 3);
            Check.due("its pallet", pallet, shop.ofPaper(paper, 0));
            Check.due("its drawing", 3 - pallet % 4, shop.ofPaper(paper, 1));
            Check.due("away", 1000 * (pallet - 5), shop.ofPaper(paper, AWAY));
            Check.due("judged", pallet == 5 ? ACCEPTED : REJECTED, shop.ofPallet(pallet, 3));
            Check.due("the next one is not yet", NONE, pallet == 5 ? NONE : shop.ofPallet(pallet + 1, 3));
        }
    }

    /** "by what was measured, the tolerances and the doubt of then": whatever came later. */
    static void promise28_whateverCameLater() {
        ToolCrib shop = coldRow(0, 8, 0, 0, 0, 0, 0, 0, 0, 0, 0, 0);
        Shop.drawn(shop, 1, 0, 1, 5);
        int[] more = {0, 1, 5, 0};
        int[] doubts = {2, 2, 2, 3};
        int[] want = {REJECTED, DOUBTFUL, ACCEPTED, DOUBTFUL};
        for (int n = 0; n < 4; n++) {
            shop.calibrate(0, doubts[n]);
            shop.allow(0, 0, more[n], 1);
            Check.due("paper", n, shop.judge(0, 0, 0));
            for (int paper = 0; paper <= n; paper++) {
                Check.due("anew", want[paper], shop.judgeAnew(paper));
                Check.due("as it was", want[paper], shop.ofPaper(paper, VERDICT));
            }
            Check.due("the latest paper", want[n], shop.ofPallet(0, 3));
        }
        shop.feature(0, 0, 0, 0, 1);
        shop.allow(0, 0, 99, 9);
        shop.calibrate(0, 30);
        shop.idle(500);
        for (int paper = 0; paper < 4; paper++) {
            Check.due("anew", want[paper], shop.judgeAnew(paper));
        }
        Check.due("judging anew is a question", want[3], shop.ofPallet(0, 3));
        Check.refused(shop, Check.INDEX, "behind the last", () -> shop.judgeAnew(4));
        Check.refused(shop, Check.INDEX, "ahead of the first", () -> shop.judgeAnew(-1));
    }
}
