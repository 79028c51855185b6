/** Promises 16 to 19: gauges, drawings, and what is allowed. */
final class GaugesTest {
    private static final int[] NO_NUMBERS = {-1, 12, Integer.MIN_VALUE, Integer.MAX_VALUE};

    static void promise16_theLastGoodMinute() {
        ToolCrib shop = new ToolCrib();
        int part = Shop.doneUncut(shop, 5);
        int drawing = Shop.drawn(shop, 0, 0, 5, 99);
        for (int gauge = 0; gauge < 4; gauge++) {
            int out = gauge;
            Check.refused(shop, Check.STATE, "out of date at first", () -> shop.judge(part, drawing, out));
        }
        Check.due("calibrate", 999, shop.calibrate(3, 0));
        shop.idle(500);
        Check.due("calibrate", 1499, shop.calibrate(0, 30));
        shop.idle(499);
        Check.due("in its last minute", 0, shop.judge(part, drawing, 3));
        Check.due("9 more", 9, shop.ofPaper(0, 5));
        shop.idle(1);
        Check.refused(shop, Check.STATE, "out of date", () -> shop.judge(part, drawing, 3));
        Check.due("the other is good", 1, shop.judge(part, drawing, 0));
        Check.due("calibrated anew", 1999, shop.calibrate(3, 7));
        Check.due("good anew", 2, shop.judge(part, drawing, 3));
        Check.due("0 more", 0, shop.ofPaper(2, 5));
        Check.due("the doubt told last", 7, shop.ofPaper(2, 4));
    }

    static void promise16_drift() {
        ToolCrib shop = new ToolCrib();
        int part = Shop.doneUncut(shop, 5);
        int drawing = Shop.drawn(shop, 0, 0, 5, 99);
        shop.idle(33);
        shop.calibrate(1, 0);
        int[] idle = {99, 1, 99, 1, 99};
        int[] more = {0, 1, 1, 2, 2};
        for (int n = 0; n < idle.length; n++) {
            shop.idle(idle[n]);
            shop.judge(part, drawing, 1);
            Check.due("more", more[n], shop.ofPaper(n, 5));
        }
        Check.due("the size itself stays", 5000, shop.ofCell(part, 0, 0, 1));
    }

    static void promise16_wrongGauges() {
        ToolCrib shop = new ToolCrib();
        for (int gauge : new int[] {-1, 4, Integer.MIN_VALUE, Integer.MAX_VALUE}) {
            Check.refused(shop, Check.INDEX, "gauge " + gauge, () -> shop.calibrate(gauge, 99));
        }
        for (int doubt : new int[] {-1, 31, Integer.MIN_VALUE, Integer.MAX_VALUE}) {
            Check.refused(shop, Check.ARGUMENT, "doubt " + doubt, () -> shop.calibrate(0, doubt));
        }
        int part = Shop.doneUncut(shop, 5);
        int drawing = Shop.drawn(shop, 0, 0, 5, 99);
        Check.refused(shop, Check.STATE, "still out of date", () -> shop.judge(part, drawing, 0));
    }

    static void promise17_fourDrawings() {
        ToolCrib shop = new ToolCrib();
        for (int n = 0; n < 4; n++) {
            Check.due("drawing", n, shop.drawing());
        }
        Check.refused(shop, Check.STATE, "a fifth", shop::drawing);
    }

    static void promise18_sixFeatures() {
        ToolCrib shop = new ToolCrib();
        shop.drawing();
        for (int n = 1; n <= 6; n++) {
            Check.due("feature", n, shop.feature(0, 11, 11, n == 1 ? 0 : 9, n == 1 ? 1 : 99));
        }
        Check.refused(shop, Check.STATE, "a seventh", () -> shop.feature(0, 0, 0, 1, 1));
        Check.refused(shop, Check.ARGUMENT, "the argument first", () -> shop.feature(0, 0, 0, 1, 0));
        Check.refused(shop, Check.INDEX, "the cell first", () -> shop.feature(0, 12, 0, 1, 0));
        shop.drawing();
        Check.due("the next drawing has its own", 1, shop.feature(1, 0, 0, 1, 1));
    }

    static void promise18_wrongFeatures() {
        ToolCrib shop = new ToolCrib();
        shop.drawing();
        for (int n : NO_NUMBERS) {
            Check.refused(shop, Check.INDEX, "drawing " + n, () -> shop.feature(n, 0, 0, 10, 0));
            Check.refused(shop, Check.INDEX, "x " + n, () -> shop.feature(0, n, 0, 10, 0));
            Check.refused(shop, Check.INDEX, "y " + n, () -> shop.feature(0, 0, n, 10, 0));
            Check.refused(shop, Check.ARGUMENT, "height " + n, () -> shop.feature(0, 0, 0, n, 1));
        }
        Check.refused(shop, Check.ARGUMENT, "height 10", () -> shop.feature(0, 0, 0, 10, 1));
        for (int tolerance : new int[] {-1, 0, 100, Integer.MIN_VALUE, Integer.MAX_VALUE}) {
            Check.refused(shop, Check.ARGUMENT, "tolerance " + tolerance, () -> shop.feature(0, 0, 0, 1, tolerance));
        }
        Check.due("none was added", 1, shop.feature(0, 0, 0, 1, 1));
    }

    static void promise19_theToleranceThen() {
        ToolCrib shop = new ToolCrib();
        Shop.drawn(shop, 0, 0, 5, 20, 1, 0, 5, 30);
        Check.due("20 and 9", 29, shop.allow(0, 0, 9, 1));
        Check.due("in place of it", 25, shop.allow(0, 0, 5, 9));
        Check.due("none", 20, shop.allow(0, 0, 0, 1));
        Check.due("the most", 129, shop.allow(0, 1, 99, 9));
    }

    static void promise19_wrongAllowances() {
        ToolCrib shop = new ToolCrib();
        Shop.drawn(shop, 0, 0, 5, 20);
        shop.drawing();
        for (int n : NO_NUMBERS) {
            Check.refused(shop, Check.INDEX, "drawing " + n, () -> shop.allow(n, 0, 100, 0));
            Check.refused(shop, Check.INDEX, "feature " + n, () -> shop.allow(0, n, 100, 0));
        }
        Check.refused(shop, Check.INDEX, "feature 1", () -> shop.allow(0, 1, 1, 1));
        Check.refused(shop, Check.INDEX, "no features", () -> shop.allow(1, 0, 1, 1));
        for (int more : new int[] {-1, 100, Integer.MIN_VALUE, Integer.MAX_VALUE}) {
            Check.refused(shop, Check.ARGUMENT, "more " + more, () -> shop.allow(0, 0, more, 1));
        }
        for (int papers : new int[] {-1, 0, 10, Integer.MIN_VALUE, Integer.MAX_VALUE}) {
            Check.refused(shop, Check.ARGUMENT, "papers " + papers, () -> shop.allow(0, 0, 1, papers));
        }
        int part = Shop.doneUncut(shop, 5);
        shop.calibrate(0, 0);
        shop.idle(500);
        shop.judge(part, 0, 0);
        Check.due("nothing was allowed", ToolCrib.ACCEPTED, shop.ofPaper(0, 2));
    }
}
