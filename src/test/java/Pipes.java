/** Pipes that several tests begin with. */
final class Pipes {
    private Pipes() {
    }

    /** Open, level, with the greatest limits; its segments hold so many. */
    static BatchPipe opened(int product, int... holds) {
        BatchPipe x = new BatchPipe();
        for (int h : holds) {
            x.segment(h, 0, 500);
        }
        x.open(product);
        return x;
    }

    /** The same, at a rate, with an order of a product. */
    static BatchPipe running(int rate, int product, int units, int... holds) {
        BatchPipe x = opened(0, holds);
        x.order(0, product, units);
        x.rate(rate);
        return x;
    }

    /** The batches of all units, that at the outlet first, found in both ways. */
    static String units(BatchPipe x) {
        StringBuilder all = new StringBuilder();
        for (int k = 0; k < 400 && (x.unit(k) != BatchPipe.NONE || x.unitAnew(k) != BatchPipe.NONE); k++) {
            all.append(x.unit(k) == x.unitAnew(k) ? "" : "!").append(x.unit(k));
        }
        return all.toString();
    }
}
