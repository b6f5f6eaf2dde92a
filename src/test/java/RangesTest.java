/**
 * Every argument of every promise on the edges of its range, just inside of them and just outside: those
 * within are taken, those outside refused, and a refused call changes nothing (Twin).
 */
public final class RangesTest {
    private interface With {
        void call(BatchPipe x, int value);
    }

    private static final int NO_END = Integer.MAX_VALUE;

    public static void main(String[] args) {
        segmentsAndProducts();
        barredSets();
        orders();
        ratesAndTanks();
        dropsAndLeaks();
        dropsAndLeaksOfFewSegments();
        batches();
        units();
        asking();
        Check.end();
    }

    private static void range(String what, int least, int most, String due, Twin.Calls state, With with) {
        int[] within = {least, least + 1, most - 1, most};
        for (int value : within) {
            BatchPipe x = new BatchPipe();
            state.on(x);
            Check.fine(what + " " + value, () -> with.call(x, value));
        }
        int[] below = {least - 1, least - 2, Integer.MIN_VALUE};
        for (int value : below) {
            Twin.refused(what + " " + value, due, state, x -> with.call(x, value));
        }
        if (most == NO_END) {
            return;
        }
        int[] above = {most + 1, most + 2, Integer.MAX_VALUE};
        for (int value : above) {
            Twin.refused(what + " " + value, due, state, x -> with.call(x, value));
        }
    }

    private static void segmentsAndProducts() {
        range("segment holds", 5, 60, Twin.ARGUMENT, Twin::fresh, (x, v) -> x.segment(v, 10, 200));
        range("segment height", 0, 50, Twin.ARGUMENT, Twin::fresh, (x, v) -> x.segment(20, v, 200));
        range("segment limit", 10, 500, Twin.ARGUMENT, Twin::fresh, (x, v) -> x.segment(20, 10, v));
        range("another segment holds", 5, 60, Twin.ARGUMENT, Twin::told, (x, v) -> x.segment(v, 10, 200));
        range("another segment height", 0, 50, Twin.ARGUMENT, Twin::told, (x, v) -> x.segment(20, v, 200));
        range("another segment limit", 10, 500, Twin.ARGUMENT, Twin::told, (x, v) -> x.segment(20, 10, v));
        range("product", 0, 5, Twin.INDEX, Twin::running, (x, v) -> x.product(v, 2, 4, 9, 0));
        range("weight", 1, 10, Twin.ARGUMENT, Twin::running, (x, v) -> x.product(0, v, 4, 9, 6));
        range("thickness", 1, 10, Twin.ARGUMENT, Twin::running, (x, v) -> x.product(0, 2, v, 9, 6));
        range("grade", 0, 9, Twin.ARGUMENT, Twin::running, (x, v) -> x.product(0, 2, 4, v, 6));
        range("product, closed", 0, 5, Twin.INDEX, Twin::told, (x, v) -> x.product(v, 2, 4, 9, 0));
        range("open", 0, 5, Twin.INDEX, Twin::told, BatchPipe::open);
    }

    /** Every product with every set: a set of others is taken, one with itself or with others than products not. */
    private static void barredSets() {
        for (int p = 0; p < 6; p++) {
            int product = p;
            BatchPipe x = new BatchPipe();
            for (int set = -130; set < 260; set++) {
                int barred = set;
                boolean isOfOthers = set >= 0 && set <= 63 && set / (1 << p) % 2 == 0;
                String due = isOfOthers ? "nothing" : Twin.ARGUMENT;
                Check.thrown("product " + p + " bars " + set, due, () -> x.product(product, 1, 1, 0, barred));
            }
        }
        int[] refused = {4, 5, 63, 64, 65, 128, 1 << 30, Integer.MAX_VALUE, -1, -3, -64, Integer.MIN_VALUE};
        for (int barred : refused) {
            Twin.refused("barred " + barred, Twin.ARGUMENT, Twin::running, x -> x.product(2, 2, 4, 9, barred));
            Twin.refused("barred of 2, closed " + barred, Twin.ARGUMENT, Twin::told, x -> x.product(2, 2, 4, 9, barred));
        }
        Twin.refused("barred of 0", Twin.ARGUMENT, Twin::running, x -> x.product(0, 2, 4, 9, 1));
    }

    private static void orders() {
        range("shipper", 0, 3, Twin.INDEX, Twin::running, (x, v) -> x.order(v, 0, 9));
        range("ordered product", 0, 5, Twin.INDEX, Twin::running, (x, v) -> x.order(0, v, 9));
        range("ordered units", 1, 200, Twin.ARGUMENT, Twin::running, (x, v) -> x.order(0, 0, v));
        range("shipper, closed", 0, 3, Twin.INDEX, Twin::fresh, (x, v) -> x.order(v, 0, 9));
        range("ordered product, closed", 0, 5, Twin.INDEX, Twin::fresh, (x, v) -> x.order(0, v, 9));
        range("ordered units, closed", 1, 200, Twin.ARGUMENT, Twin::fresh, (x, v) -> x.order(0, 0, v));
    }

    private static void ratesAndTanks() {
        range("rate", 0, 10, Twin.ARGUMENT, Twin::running, BatchPipe::rate);
        range("rate, closed", 0, 10, Twin.ARGUMENT, Twin::told, BatchPipe::rate);
        range("receive", 0, 3, Twin.INDEX, Twin::running, BatchPipe::receive);
        range("receive, closed", 0, 3, Twin.INDEX, Twin::told, BatchPipe::receive);
        range("empty", 0, 3, Twin.INDEX, Twin::running, BatchPipe::empty);
        range("empty, closed", 0, 3, Twin.INDEX, Twin::fresh, BatchPipe::empty);
        range("pass", 1, 60, Twin.ARGUMENT, Twin::running, BatchPipe::pass);
    }

    private static void dropsAndLeaks() {
        range("drop segment", -1, 1, Twin.INDEX, Twin::running, (x, v) -> x.drop(v, 4, 3));
        range("drop units", 1, 10, Twin.ARGUMENT, Twin::running, (x, v) -> x.drop(1, v, 3));
        range("drop tank", 0, 3, Twin.INDEX, Twin::running, (x, v) -> x.drop(1, 4, v));
        range("drop units, none", 1, 10, Twin.ARGUMENT, Twin::running, (x, v) -> x.drop(-1, v, 3));
        range("drop tank, none", 0, 3, Twin.INDEX, Twin::running, (x, v) -> x.drop(-1, 4, v));
        range("drop segment, closed", -1, 1, Twin.INDEX, Twin::told, (x, v) -> x.drop(v, 4, 3));
        range("drop units, closed", 1, 10, Twin.ARGUMENT, Twin::told, (x, v) -> x.drop(1, v, 3));
        range("drop tank, closed", 0, 3, Twin.INDEX, Twin::told, (x, v) -> x.drop(1, 4, v));
        range("leak segment", -1, 1, Twin.INDEX, Twin::running, (x, v) -> x.leak(v, 4));
        range("leak units", 1, 10, Twin.ARGUMENT, Twin::running, (x, v) -> x.leak(0, v));
        range("leak units, none", 1, 10, Twin.ARGUMENT, Twin::running, (x, v) -> x.leak(-1, v));
        range("leak segment, closed", -1, 1, Twin.INDEX, Twin::told, (x, v) -> x.leak(v, 4));
        range("leak units, closed", 1, 10, Twin.ARGUMENT, Twin::told, (x, v) -> x.leak(0, v));
    }

    /** The last segment is the last one told so far; without segments there is none but NONE. */
    private static void dropsAndLeaksOfFewSegments() {
        range("drop segment of six", -1, 4, Twin.INDEX, Twin::sixSegmentsOpen, (x, v) -> x.drop(v, 4, 3));
        range("leak segment of six", -1, 4, Twin.INDEX, Twin::sixSegmentsOpen, (x, v) -> x.leak(v, 4));
        int[] none = {-2, 0, 1, Integer.MIN_VALUE, Integer.MAX_VALUE};
        for (int segment : none) {
            Twin.refused("drop, no segments " + segment, Twin.INDEX, Twin::fresh, x -> x.drop(segment, 4, 3));
            Twin.refused("leak, no segments " + segment, Twin.INDEX, Twin::fresh, x -> x.leak(segment, 4));
            Twin.refused("drop, one segment " + segment, Twin.INDEX, x -> x.segment(5, 0, 10), x -> x.drop(segment, 4, 3));
            Twin.refused("leak, one segment " + segment, Twin.INDEX, x -> x.segment(5, 0, 10), x -> x.leak(segment, 4));
        }
        BatchPipe x = new BatchPipe();
        Check.fine("no drop, no segments", () -> x.drop(-1, 4, 3));
        Check.fine("no leak, no segments", () -> x.leak(-1, 4));
        x.segment(5, 0, 10);
        Check.fine("no drop, one segment", () -> x.drop(-1, 4, 3));
        Check.fine("no leak, one segment", () -> x.leak(-1, 4));
    }

    private static void batches() {
        range("batch", 0, 2, Twin.INDEX, Twin::running, (x, v) -> x.batch(v, 0));
        range("batch of 40", 0, 39, Twin.INDEX, Twin::batches40Open, (x, v) -> x.batch(v, 5));
        range("batch, closed", 1, 2, Twin.INDEX, Twin::told, (x, v) -> x.batch(v, 0));
        range("batch of 40, closed", 1, 39, Twin.INDEX, Twin::batches40, (x, v) -> x.batch(v, 5));
        for (int b = 0; b < 3; b++) {
            int batch = b;
            range("what of batch " + b, 0, 7, Twin.ARGUMENT, Twin::running, (x, v) -> x.batch(batch, v));
        }
        range("what of a batch that waits, closed", 0, 7, Twin.ARGUMENT, Twin::told, (x, v) -> x.batch(1, v));
    }

    private static void units() {
        range("unit", 0, NO_END, Twin.INDEX, Twin::running, BatchPipe::unit);
        range("unitAnew", 0, NO_END, Twin.INDEX, Twin::running, BatchPipe::unitAnew);
        range("unit, closed", 0, NO_END, Twin.INDEX, Twin::told, BatchPipe::unit);
        range("unitAnew, closed", 0, NO_END, Twin.INDEX, Twin::told, BatchPipe::unitAnew);
    }

    private static void asking() {
        range("pressure segment", 0, 2, Twin.INDEX, Twin::running, (x, v) -> x.pressure(v, 5));
        range("pressure segment of six", 0, 5, Twin.INDEX, Twin::sixSegmentsOpen, (x, v) -> x.pressure(v, 5));
        range("pressure units", 0, 10, Twin.ARGUMENT, Twin::running, (x, v) -> x.pressure(2, v));
        range("tank", 0, 3, Twin.INDEX, Twin::running, (x, v) -> x.tank(v, 0));
        range("what of a tank", 0, 2, Twin.ARGUMENT, Twin::running, (x, v) -> x.tank(1, v));
        range("tank, closed", 0, 3, Twin.INDEX, Twin::fresh, (x, v) -> x.tank(v, 1));
        range("what of a tank, closed", 0, 2, Twin.ARGUMENT, Twin::fresh, (x, v) -> x.tank(3, v));
        range("pipe", 0, 5, Twin.ARGUMENT, Twin::running, BatchPipe::pipe);
        range("pipe, closed", 0, 5, Twin.ARGUMENT, Twin::fresh, BatchPipe::pipe);
        range("dirt", 0, 2, Twin.INDEX, Twin::running, BatchPipe::dirt);
        range("dirt, closed", 0, 2, Twin.INDEX, Twin::told, BatchPipe::dirt);
        range("share shipper", 0, 3, Twin.INDEX, Twin::running, (x, v) -> x.share(v, 9));
        range("share units", 0, 9999, Twin.ARGUMENT, Twin::running, (x, v) -> x.share(1, v));
        range("share shipper, closed", 0, 3, Twin.INDEX, Twin::told, (x, v) -> x.share(v, 9));
        range("share units, closed", 0, 9999, Twin.ARGUMENT, Twin::told, (x, v) -> x.share(1, v));
        int[] none = {-1, 0, 1};
        for (int segment : none) {
            Twin.refused("dirt, no segments " + segment, Twin.INDEX, Twin::fresh, x -> x.dirt(segment));
            Twin.refused("pressure, no segments " + segment, Twin.INDEX, Twin::fresh, x -> x.pressure(segment, 0));
        }
    }
}
