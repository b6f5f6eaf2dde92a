/** Promises 1 to 4: a new object, segment, product, open. */
public final class PipeAndProductsTest {
    public static void main(String[] args) {
        newObject();
        segmentIsNumbered();
        segmentRefuses();
        segmentsAreAtMostSix();
        productAtFirst();
        productRefuses();
        productFromNowOn();
        productThatIsRefusedChangesNothing();
        barredOnEitherSide();
        openFills();
        openRefuses();
        Check.end();
    }

    private static void newObject() {
        BatchPipe x = new BatchPipe();
        Check.due("NONE", -1, BatchPipe.NONE);
        Check.index("dirt(0) of a new object", () -> x.dirt(0));
        Check.index("batch(0, 0) of a new object", () -> x.batch(0, 0));
        Check.index("pressure(0, 0) of a new object", () -> x.pressure(0, 0));
        Check.state("open(0) of a new object", () -> x.open(0));
        Check.state("launch of a new object", () -> x.launch());
        Check.state("pass(1) of a new object", () -> x.pass(1));
        Check.due("unit(0) of a new object", -1, x.unit(0));
        Check.due("unitAnew(0) of a new object", -1, x.unitAnew(0));
        for (int what = 0; what <= 5; what++) {
            Check.due("pipe of a new object " + what, 0, x.pipe(what));
        }
        for (int tank = 0; tank < 4; tank++) {
            Check.due("tank(t, 0) of a new object", 0, x.tank(tank, 0));
            Check.due("tank(t, 1) of a new object", -1, x.tank(tank, 1));
            Check.due("tank(t, 2) of a new object", 0, x.tank(tank, 2));
            Check.due("empty of a new object", 0, x.empty(tank));
            Check.due("share of a new object", 0, x.share(tank, 9999));
        }
        Check.due("rate of a new object", 0, x.rate(5));
        Check.due("receive of a new object", 0, x.receive(3));
        Check.due("the first segment", 0, x.segment(5, 0, 10));
    }

    private static void segmentIsNumbered() {
        BatchPipe x = new BatchPipe();
        Check.due("segment, least", 0, x.segment(5, 0, 10));
        Check.due("segment, greatest", 1, x.segment(60, 50, 500));
        Check.due("segment, third", 2, x.segment(7, 25, 100));
        Check.due("dirt of the last told", 0, x.dirt(2));
        Check.index("dirt behind the last told", () -> x.dirt(3));
        Check.due("open holds them all", 72, x.open(0));
    }

    private static void segmentRefuses() {
        BatchPipe x = new BatchPipe();
        Check.argument("holds 4", () -> x.segment(4, 0, 10));
        Check.argument("holds 61", () -> x.segment(61, 0, 10));
        Check.argument("holds, least int", () -> x.segment(Integer.MIN_VALUE, 0, 10));
        Check.argument("height -1", () -> x.segment(5, -1, 10));
        Check.argument("height 51", () -> x.segment(5, 51, 10));
        Check.argument("limit 9", () -> x.segment(5, 0, 9));
        Check.argument("limit 501", () -> x.segment(5, 0, 501));
        Check.argument("limit, greatest int", () -> x.segment(5, 0, Integer.MAX_VALUE));
        Check.due("the first that is not refused", 0, x.segment(5, 0, 10));
        x.open(0);
        Check.state("segment, open", () -> x.segment(5, 0, 10));
        Check.argument("segment, open, the argument first", () -> x.segment(5, 0, 9));
        Check.index("no second one", () -> x.dirt(1));
    }

    private static void segmentsAreAtMostSix() {
        BatchPipe x = new BatchPipe();
        for (int k = 0; k < 6; k++) {
            Check.due("segment " + k, k, x.segment(60, 50, 500));
        }
        Check.state("segment, six", () -> x.segment(60, 50, 500));
        Check.argument("segment, six, the argument first", () -> x.segment(61, 50, 500));
        Check.due("open of the longest", 360, x.open(5));
        Check.due("its last unit", 0, x.unit(359));
        Check.due("behind its last unit", -1, x.unit(360));
    }

    private static void productAtFirst() {
        for (int p = 0; p < 6; p++) {
            BatchPipe x = new BatchPipe();
            x.segment(50, 10, 500);
            x.open(p);
            // 10 times 50 units of thickness 3 is 1500, 15 for each hundred; weight 8 at height 10.
            Check.due("pressure of product " + p, 95, x.pressure(0, 10));
            x.order(0, p, 1);
            x.rate(1);
            x.pass(1);
            Check.due("grade of product " + p, p, x.tank(0, 1));
        }
        for (int p = 0; p < 36; p++) {
            BatchPipe x = new BatchPipe();
            x.segment(5, 0, 500);
            x.open(p / 6);
            x.order(0, p % 6, 1);
            x.rate(1);
            Check.due("all bear each other at first", 1, x.pass(1));
        }
    }

    private static void productRefuses() {
        BatchPipe x = new BatchPipe();
        Check.index("product -1", () -> x.product(-1, 1, 1, 0, 0));
        Check.index("product 6", () -> x.product(6, 1, 1, 0, 0));
        Check.index("product 6, the index first", () -> x.product(6, 0, 0, -1, 64));
        Check.argument("weight 0", () -> x.product(0, 0, 1, 0, 0));
        Check.argument("weight 11", () -> x.product(0, 11, 1, 0, 0));
        Check.argument("thickness 0", () -> x.product(0, 1, 0, 0, 0));
        Check.argument("thickness 11", () -> x.product(0, 1, 11, 0, 0));
        Check.argument("grade -1", () -> x.product(0, 1, 1, -1, 0));
        Check.argument("grade 10", () -> x.product(0, 1, 1, 10, 0));
        Check.argument("barred -1", () -> x.product(0, 1, 1, 0, -1));
        Check.argument("barred least int", () -> x.product(0, 1, 1, 0, Integer.MIN_VALUE));
        Check.argument("barred 64", () -> x.product(0, 1, 1, 0, 64));
        Check.argument("barred 66", () -> x.product(0, 1, 1, 0, 66));
        for (int p = 0; p < 6; p++) {
            int product = p;
            Check.argument("barred has itself", () -> x.product(product, 1, 1, 0, 1 << product));
            Check.argument("barred has itself with others", () -> x.product(product, 1, 1, 0, 63));
            Check.fine("least", () -> x.product(product, 1, 1, 0, 0));
            Check.fine("greatest", () -> x.product(product, 10, 10, 9, 63 - (1 << product)));
        }
    }

    private static void productFromNowOn() {
        BatchPipe x = new BatchPipe();
        x.segment(10, 20, 500);
        x.open(1);
        x.order(0, 1, 50);
        x.rate(1);
        x.pass(1);
        Check.due("grade as it was", 1, x.tank(0, 1));
        x.product(1, 2, 10, 0, 0);
        // 10 times 10 units of 10 and of dirt 1 is 1010, 11 for each hundred; weight 2 at height 20.
        Check.due("pressure of what is in the pipe", 51, x.pressure(0, 10));
        Check.due("grade of what came stays", 1, x.tank(0, 1));
        x.receive(1);
        x.pass(1);
        Check.due("grade of what comes from now on", 0, x.tank(1, 1));
        x.product(1, 2, 10, 7, 0);
        x.pass(1);
        Check.due("a worse grade", 7, x.tank(1, 1));
        x.product(1, 2, 10, 3, 0);
        x.pass(1);
        Check.due("a better grade does not make it better", 7, x.tank(1, 1));
    }

    private static void productThatIsRefusedChangesNothing() {
        BatchPipe x = new BatchPipe();
        x.segment(50, 10, 500);
        x.open(2);
        Check.argument("barred has itself", () -> x.product(2, 1, 1, 9, 4));
        Check.argument("grade 10", () -> x.product(2, 1, 1, 10, 0));
        Check.due("weight and thickness stay", 95, x.pressure(0, 10));
    }

    private static void barredOnEitherSide() {
        Check.due("the one at the inlet bars", 0, enteredBehind(2, 1 << 4, 4, 0));
        Check.due("the one that waits bars", 0, enteredBehind(2, 0, 4, 1 << 2));
        Check.due("both bar", 0, enteredBehind(2, 1 << 4, 4, 1 << 2));
        Check.due("others are barred", 3, enteredBehind(2, 43, 4, 43));
        Check.due("the same product", 3, enteredBehind(2, 59, 2, 59));
    }

    private static int enteredBehind(int first, int barredByFirst, int second, int barredBySecond) {
        BatchPipe x = new BatchPipe();
        x.segment(5, 0, 500);
        x.product(first, 8, 3, 0, barredByFirst);
        x.product(second, 8, 3, 0, barredBySecond);
        x.open(first);
        x.order(0, second, 9);
        x.rate(3);
        return x.pass(1);
    }

    private static void openFills() {
        BatchPipe x = new BatchPipe();
        x.segment(5, 0, 500);
        x.segment(8, 0, 500);
        Check.due("open", 13, x.open(4));
        Check.due("units in the pipe", 13, x.batch(0, 0));
        Check.due("units that entered", 13, x.batch(0, 1));
        Check.due("product", 4, x.batch(0, 7));
        for (int k = 0; k < 13; k++) {
            Check.due("unit", 0, x.unit(k));
            Check.due("unitAnew", 0, x.unitAnew(k));
        }
        Check.due("unit behind", -1, x.unit(13));
        Check.due("unitAnew behind", -1, x.unitAnew(13));
    }

    private static void openRefuses() {
        BatchPipe x = new BatchPipe();
        Check.index("open(6), the index first", () -> x.open(6));
        Check.state("open without segments", () -> x.open(5));
        x.segment(5, 0, 500);
        Check.index("open(-1)", () -> x.open(-1));
        Check.index("open(6)", () -> x.open(6));
        Check.due("still closed", -1, x.unit(0));
        x.open(3);
        Check.state("open twice", () -> x.open(1));
        Check.index("open twice, the index first", () -> x.open(6));
        Check.due("the product stays", 3, x.batch(0, 7));
    }
}
