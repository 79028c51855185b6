import java.util.ArrayList;
import java.util.List;

/**
 * "A call that throws an exception changes nothing", "If several apply, the one that is named first in the throws clause
 * is thrown", "Questions change nothing": each for shops that hold some of all, and all that they can hold.
 */
final class RefusalsTest {
    private static final int MODE = ToolCrib.MODE, X = ToolCrib.X, Y = ToolCrib.Y, Z = ToolCrib.Z,
            KIND = ToolCrib.KIND, CALL = ToolCrib.CALL;
    private static final int[] FAR = {-1, 30, 31, 512, Integer.MIN_VALUE, Integer.MAX_VALUE};

    private interface Calls {
        void make(ToolCrib shop);
    }

    /** Pallets DONE, in the midst, waiting and RAW; tools of all kinds; two drawings, three papers, an allowance. */
    private static ToolCrib some() {
        ToolCrib shop = new ToolCrib();
        for (int x = 0; x < 12; x++) {
            shop.map(x, 3 * x - 10);
        }
        Shop.write(shop, KIND, 0, MODE, 1, Z, 6, X, 9);
        Shop.write(shop, CALL, 0, Z, 9, KIND, 1, Y, 3, Z, 5, X, 2);
        Shop.write(shop, Z, 2);
        Shop.loaded(shop, 0, 40);
        Shop.loaded(shop, 1, 15);
        shop.tool(3, 500);
        for (int n = 0; n < 5; n++) {
            shop.pallet(7);
        }
        shop.clamp(2, 11, 11, 5);
        shop.clamp(4, 3, 3, 9);
        shop.plan(1, 1);
        shop.plan(0, 1);
        shop.plan(2, 0);
        shop.night();
        shop.idle(7);
        Shop.drawn(shop, 0, 0, 6, 20, 9, 0, 6, 40, 3, 3, 5, 9);
        Shop.drawn(shop, 1, 0, 6, 30);
        shop.calibrate(0, 3);
        shop.calibrate(2, 9);
        shop.judge(1, 0, 0);
        shop.judge(1, 1, 2);
        shop.judge(1, 0, 2);
        shop.allow(0, 1, 5, 3);
        return shop;
    }

    /** As many of all as there can be. */
    private static ToolCrib full() {
        ToolCrib shop = some();
        for (int n = 3; n < 16; n++) {
            shop.tool(n % 4, 20);
        }
        for (int n = 8; n < 12; n++) {
            shop.load(n, true);
        }
        shop.night();
        shop.pallet(9);
        for (int n = 3; n < 6; n++) {
            shop.program();
        }
        for (int n = 0; n < 24; n++) {
            shop.block(2, MODE, 1);
        }
        for (int n = 0; n < 30; n++) {
            shop.block(5, MODE, 1);
        }
        shop.clamp(4, 5, 5, 1);
        shop.clamp(4, 6, 6, 1);
        shop.drawing();
        shop.drawing();
        for (int n = 0; n < 6; n++) {
            shop.feature(3, n, 0, 6, 99);
        }
        for (int n = 3; n < 30; n++) {
            shop.judge(1, n % 5 == 0 ? 3 : 0, 0);
        }
        return shop;
    }

    private static void refusedAll(ToolCrib shop, Class<? extends RuntimeException> want, Check.Call... calls) {
        for (int n = 0; n < calls.length; n++) {
            Check.refused(shop, want, want.getSimpleName() + ", call " + n, calls[n]);
        }
    }

    /** One of two shops that are alike is refused all this: both go on as if it had not been. */
    private static void leavesNoTrace(Calls calls) {
        for (int n = 0; n < 2; n++) {
            ToolCrib asked = n == 0 ? some() : full();
            calls.make(asked);
            List<String> got = Reveal.of(asked);
            List<String> want = Reveal.of(n == 0 ? some() : full());
            Check.due("as many answers", want.size(), got.size());
            for (int a = 0; a < Math.min(want.size(), got.size()); a++) {
                Check.that("shop " + n + ", as if it had not been, at answer " + a + ", " + brief(want.get(a)),
                        want.get(a).equals(got.get(a)));
            }
        }
    }

    private static String brief(String answer) {
        return answer.substring(0, Math.min(40, answer.length()));
    }

    static void promise01to28_noSuchOneComesFirst() {
        leavesNoTrace(shop -> {
            for (int no : FAR) {
                refusedAll(shop, Check.INDEX, () -> shop.block(no, 9, 99), () -> shop.block(no, MODE, 0),
                        () -> shop.load(no, true), () -> shop.load(no, false), () -> shop.clamp(no, 0, 0, 99),
                        () -> shop.clamp(4, no, 0, 99), () -> shop.clamp(4, 0, no, 1), () -> shop.clamp(1, no, 0, 1));
                refusedAll(shop, Check.INDEX, () -> shop.prove(no, 0), () -> shop.prove(0, no),
                        () -> shop.takes(no, 0), () -> shop.takes(0, no), () -> shop.plan(no, 0),
                        () -> shop.plan(4, no), () -> shop.plan(1, no), () -> shop.plan(no, no));
                refusedAll(shop, Check.INDEX, () -> shop.calibrate(no, 99), () -> shop.calibrate(no, 0),
                        () -> shop.feature(no, 0, 0, 99, 0), () -> shop.feature(0, no, 0, 1, 1),
                        () -> shop.feature(1, 0, no, 1, 1), () -> shop.feature(3, no, no, 99, 99),
                        () -> shop.allow(no, 0, 1, 1), () -> shop.allow(0, no, 999, 99));
                refusedAll(shop, Check.INDEX, () -> shop.judge(no, 0, 0), () -> shop.judge(1, no, 0),
                        () -> shop.judge(1, 0, no), () -> shop.judge(4, 0, no), () -> shop.judge(no, no, 3),
                        () -> shop.correct(no), () -> shop.judgeAnew(no), () -> shop.ofPaper(no, 99));
                refusedAll(shop, Check.INDEX, () -> shop.ofTool(no, 99), () -> shop.ofCell(no, 0, 0, 99),
                        () -> shop.ofCell(0, no, 0, 99), () -> shop.ofCell(0, 0, no, 99), () -> shop.ofPallet(no, 99));
            }
        });
    }

    static void promise03to27_otherArgumentsComeSecond() {
        leavesNoTrace(shop -> {
            for (int no : new int[] {-512, 501, Integer.MIN_VALUE, Integer.MAX_VALUE}) {
                refusedAll(shop, Check.ARGUMENT, () -> shop.block(0, no, 0), () -> shop.block(0, MODE, no),
                        () -> shop.block(2, X, no), () -> shop.block(2, KIND, no), () -> shop.block(2, CALL, no),
                        () -> shop.block(0, CALL, 0), () -> shop.map(no, 0), () -> shop.map(0, no));
                refusedAll(shop, Check.ARGUMENT, () -> shop.tool(no, 1), () -> shop.tool(0, no), () -> shop.pallet(no),
                        () -> shop.clamp(4, 0, 0, no), () -> shop.clamp(1, 0, 0, no), () -> shop.clamp(4, 3, 3, no),
                        () -> shop.lacks(no), () -> shop.idle(no));
                refusedAll(shop, Check.ARGUMENT, () -> shop.calibrate(0, no), () -> shop.calibrate(3, no),
                        () -> shop.feature(0, 0, 0, no, 1), () -> shop.feature(0, 0, 0, 1, no),
                        () -> shop.allow(0, 0, no, 1), () -> shop.allow(0, 1, 1, no), () -> shop.allow(1, 0, no, no));
                refusedAll(shop, Check.ARGUMENT, () -> shop.ofTool(0, no), () -> shop.ofCell(0, 11, 11, no),
                        () -> shop.ofPallet(1, no), () -> shop.ofPaper(0, no));
            }
        });
    }

    static void promise03to20_statesComeLast() {
        leavesNoTrace(shop -> refusedAll(shop, Check.STATE,
                () -> shop.clamp(1, 0, 0, 1), () -> shop.clamp(4, 3, 3, 8), () -> shop.clamp(2, 0, 0, 1),
                () -> shop.plan(1, 0), () -> shop.plan(4, 2), () -> shop.plan(4, 1), () -> shop.plan(2, 0),
                () -> shop.judge(4, 0, 0), () -> shop.judge(1, 0, 1), () -> shop.judge(1, 0, 3),
                () -> shop.judge(3, 0, 0)));
    }

    /** What a full shop refuses; what a shop refuses of which a pallet is PLANNED. */
    static void promise02to20_thereIsNoRoom() {
        ToolCrib planned = some();
        refusedAll(planned, Check.STATE, () -> planned.block(0, MODE, 0), () -> planned.block(2, MODE, 0),
                () -> planned.block(1, CALL, 0));
        List<String> got = Reveal.of(planned);
        Check.that("as if it had not been", got.equals(Reveal.of(some())));
        ToolCrib shop = full();
        for (int pallet = 0; pallet < 6; pallet++) {
            Check.that("no pallet is PLANNED", shop.ofPallet(pallet, 0) != ToolCrib.PLANNED);
        }
        refusedAll(shop, Check.STATE, shop::program, shop::drawing, () -> shop.tool(0, 1), () -> shop.pallet(1),
                () -> shop.block(5, MODE, 0), () -> shop.load(3, true), () -> shop.clamp(4, 0, 0, 1),
                () -> shop.feature(3, 0, 0, 1, 1), () -> shop.judge(1, 0, 0), () -> shop.judge(1, 2, 0),
                () -> shop.plan(0, 0));
        refusedAll(shop, Check.ARGUMENT, () -> shop.tool(4, 1), () -> shop.pallet(0), () -> shop.block(5, MODE, 2),
                () -> shop.clamp(4, 0, 0, 0), () -> shop.feature(3, 0, 0, 1, 0));
        refusedAll(shop, Check.INDEX, () -> shop.block(6, MODE, 2), () -> shop.load(16, true),
                () -> shop.clamp(6, 0, 0, 0), () -> shop.feature(4, 0, 0, 1, 0), () -> shop.judge(6, 0, 0));
        got = Reveal.of(shop);
        Check.that("as if it had not been", got.equals(Reveal.of(full())));
    }

    /** Each question, of all that is there, changes nothing that shows later. */
    static void promise09to28_questionsChangeNothing() {
        leavesNoTrace(shop -> {
            List<Integer> first = new ArrayList<>(Snapshot.of(shop));
            for (int n = 0; n < 3; n++) {
                Check.that("the same answers again", first.equals(Snapshot.of(shop)));
            }
        });
    }

    /** "An object is used for at most 512 calls": the last one is answered like the first. */
    static void promise22_theFiveHundredAndTwelfthCall() {
        ToolCrib shop = new ToolCrib();
        for (int n = 1; n <= 500; n++) {
            Check.due("idle", n, shop.idle(1));
        }
        int[] calls = {shop.program(), shop.block(0, KIND, 0), shop.block(0, MODE, 1), shop.block(0, Z, 0),
            shop.pallet(9), shop.plan(0, 0), shop.tool(0, 9), shop.load(0, true), shop.foresees(), shop.night()};
        int[] due = {0, 1, 2, 3, 0, 1, 0, 1, 1, 1};
        for (int n = 0; n < calls.length; n++) {
            Check.due("call " + (501 + n), due[n], calls[n]);
        }
        Check.due("call 511", 509, shop.minute());
        Check.due("call 512", 2, shop.ofCell(0, 0, 0, 1));
    }
}
