/**
 * Calls that the state refuses, on the edge of that, and which exception is thrown if several apply: the one
 * that the method lists first. Behind each of them all answers are those from ahead of it (Twin).
 */
public final class RefusedTest {
    private static final int[] WRONG_ONES = {-2, 6, Integer.MIN_VALUE, Integer.MAX_VALUE};
    private static final int[] WRONG_UNITS = {-1, 11, Integer.MIN_VALUE, Integer.MAX_VALUE};

    public static void main(String[] args) {
        segmentsAreAtMostSix();
        segmentsAreToldAheadOfTheOpening();
        segmentListsArgumentsFirst();
        productListsIndicesFirst();
        pipeIsOpenedOnce();
        openListsIndicesFirst();
        batchesAreAtMostForty();
        orderListsIndicesFirst();
        dropAndLeakListIndicesFirst();
        onePigAtATime();
        minuteIsAtMost9999();
        passListsArgumentsFirst();
        batchListsIndicesFirst();
        pressureOfAClosedPipe();
        tankAndShareListIndicesFirst();
        unitsOfAClosedPipe();
        Check.end();
    }

    private static void segmentsAreAtMostSix() {
        BatchPipe x = new BatchPipe();
        Twin.fiveSegments(x);
        Check.due("the sixth", 5, x.segment(5, 0, 10));
        Check.due("the dirt of the sixth", 0, x.dirt(5));
        Check.index("no seventh", () -> x.dirt(6));
        Twin.refused("the seventh", Twin.STATE, Twin::sixSegments, y -> y.segment(5, 0, 10));
        Twin.refused("the seventh, open", Twin.STATE, Twin::sixSegmentsOpen, y -> y.segment(5, 0, 10));
    }

    private static void segmentsAreToldAheadOfTheOpening() {
        Twin.refused("segment, open", Twin.STATE, Twin::running, x -> x.segment(60, 50, 500));
        Twin.refused("segment, just opened", Twin.STATE, RefusedTest::justOpened, x -> x.segment(5, 0, 10));
    }

    private static void justOpened(BatchPipe x) {
        x.segment(5, 2, 90);
        x.open(3);
    }

    private static void segmentListsArgumentsFirst() {
        Twin.Calls[] states = {Twin::sixSegments, Twin::running, Twin::sixSegmentsOpen};
        for (Twin.Calls state : states) {
            Twin.refused("holds ahead of the state", Twin.ARGUMENT, state, x -> x.segment(4, 0, 10));
            Twin.refused("holds ahead of the state", Twin.ARGUMENT, state, x -> x.segment(61, 0, 10));
            Twin.refused("height ahead of the state", Twin.ARGUMENT, state, x -> x.segment(5, -1, 10));
            Twin.refused("height ahead of the state", Twin.ARGUMENT, state, x -> x.segment(5, 51, 10));
            Twin.refused("limit ahead of the state", Twin.ARGUMENT, state, x -> x.segment(5, 0, 9));
            Twin.refused("limit ahead of the state", Twin.ARGUMENT, state, x -> x.segment(5, 0, 501));
        }
    }

    private static void productListsIndicesFirst() {
        for (int product : WRONG_ONES) {
            Twin.refused("product ahead of weight", Twin.INDEX, Twin::running, x -> x.product(product, 0, 1, 0, 0));
            Twin.refused("product ahead of thickness", Twin.INDEX, Twin::running, x -> x.product(product, 1, 11, 0, 0));
            Twin.refused("product ahead of grade", Twin.INDEX, Twin::running, x -> x.product(product, 1, 1, 10, 0));
            Twin.refused("product ahead of barred", Twin.INDEX, Twin::running, x -> x.product(product, 1, 1, 0, 64));
            Twin.refused("product ahead of barred", Twin.INDEX, Twin::fresh, x -> x.product(product, 1, 1, 0, -1));
        }
    }

    private static void pipeIsOpenedOnce() {
        Twin.refused("no segments", Twin.STATE, Twin::fresh, x -> x.open(0));
        BatchPipe x = new BatchPipe();
        x.segment(5, 0, 10);
        Check.due("one segment", 5, x.open(0));
        for (int p = 0; p < 6; p++) {
            int product = p;
            Twin.refused("opened again", Twin.STATE, Twin::running, y -> y.open(product));
            Twin.refused("just opened", Twin.STATE, RefusedTest::justOpened, y -> y.open(product));
        }
    }

    private static void openListsIndicesFirst() {
        for (int product : WRONG_ONES) {
            Twin.refused("open ahead of no segments", Twin.INDEX, Twin::fresh, x -> x.open(product));
            Twin.refused("open ahead of an open pipe", Twin.INDEX, Twin::running, x -> x.open(product));
        }
    }

    private static void batchesAreAtMostForty() {
        BatchPipe x = new BatchPipe();
        Twin.batches39(x);
        Check.due("the fortieth batch", 39, x.order(0, 0, 1));
        Check.state("no other", () -> x.order(0, 0, 1));
        BatchPipe y = new BatchPipe();
        Twin.batches39(y);
        y.open(0);
        Check.due("the fortieth batch, open", 39, y.order(0, 0, 1));
        Check.state("no other, open", () -> y.order(0, 0, 1));
        Twin.refused("order, forty", Twin.STATE, Twin::batches40, z -> z.order(3, 5, 200));
        Twin.refused("order, forty, open", Twin.STATE, Twin::batches40Open, z -> z.order(0, 0, 1));
        // Batches that have gone are counted too.
        BatchPipe gone = Pipes.opened(0, 5);
        gone.rate(10);
        for (int k = 1; k <= 39; k++) {
            Check.due("order " + k, k, gone.order(0, 0, 10));
            gone.pass(1);
        }
        Check.due("none waits", 0, gone.batch(39, 5));
        Check.state("no order though none waits", () -> gone.order(0, 0, 1));
    }

    private static void orderListsIndicesFirst() {
        Twin.Calls[] states = {Twin::running, Twin::batches40, Twin::batches40Open};
        for (Twin.Calls state : states) {
            Twin.refused("shipper ahead of units", Twin.INDEX, state, x -> x.order(4, 0, 0));
            Twin.refused("shipper ahead of units", Twin.INDEX, state, x -> x.order(-1, 0, 201));
            Twin.refused("product ahead of units", Twin.INDEX, state, x -> x.order(0, 6, 0));
            Twin.refused("product ahead of units", Twin.INDEX, state, x -> x.order(0, -1, 201));
            Twin.refused("shipper ahead of all", Twin.INDEX, state, x -> x.order(-1, 0, 1));
            Twin.refused("product ahead of all", Twin.INDEX, state, x -> x.order(0, 6, 1));
            Twin.refused("units ahead of forty", Twin.ARGUMENT, state, x -> x.order(0, 0, 0));
            Twin.refused("units ahead of forty", Twin.ARGUMENT, state, x -> x.order(0, 0, 201));
        }
    }

    private static void dropAndLeakListIndicesFirst() {
        for (int units : WRONG_UNITS) {
            Twin.refused("drop: segment first", Twin.INDEX, Twin::running, x -> x.drop(2, units, 0));
            Twin.refused("drop: segment first", Twin.INDEX, Twin::running, x -> x.drop(-2, units, 0));
            Twin.refused("drop: tank first", Twin.INDEX, Twin::running, x -> x.drop(0, units, 4));
            Twin.refused("drop: tank first", Twin.INDEX, Twin::running, x -> x.drop(0, units, -1));
            Twin.refused("drop of none: tank first", Twin.INDEX, Twin::running, x -> x.drop(-1, units, 4));
            Twin.refused("drop of none: units too", Twin.ARGUMENT, Twin::running, x -> x.drop(-1, units, 0));
            Twin.refused("leak: segment first", Twin.INDEX, Twin::running, x -> x.leak(2, units));
            Twin.refused("leak: segment first", Twin.INDEX, Twin::running, x -> x.leak(-2, units));
            Twin.refused("leak of none: units too", Twin.ARGUMENT, Twin::running, x -> x.leak(-1, units));
            Twin.refused("drop: segment first, no segments", Twin.INDEX, Twin::fresh, x -> x.drop(0, units, 0));
            Twin.refused("leak: segment first, no segments", Twin.INDEX, Twin::fresh, x -> x.leak(0, units));
        }
    }

    private static void onePigAtATime() {
        Twin.refused("launch, no segments", Twin.STATE, Twin::fresh, BatchPipe::launch);
        Twin.refused("launch, closed", Twin.STATE, Twin::told, BatchPipe::launch);
        Twin.refused("launch, one in it", Twin.STATE, Twin::running, BatchPipe::launch);
        BatchPipe x = Pipes.running(1, 1, 50, 5);
        for (int round = 0; round < 3; round++) {
            Check.due("none in it", 0, x.pipe(4));
            Check.fine("launch", () -> x.launch());
            for (int k = 0; k < 4; k++) {
                x.pass(1);
                Check.state("its unit is in the pipe yet", () -> x.launch());
                Check.due("in it", 1, x.pipe(4));
            }
            x.pass(1);
        }
        // A second launch does not put the pig behind a later unit.
        Check.fine("launch", () -> x.launch());
        x.pass(3);
        Check.state("launch, refused", () -> x.launch());
        x.pass(2);
        Check.due("out with the first one's unit", 0, x.pipe(4));
    }

    private static void minuteIsAtMost9999() {
        int[] fine = {1, 8, 9};
        for (int minutes : fine) {
            BatchPipe x = new BatchPipe();
            Twin.minute9990(x);
            Check.due("as many as minutes", minutes, x.pass(minutes));
            Check.due("the minute", 9990 + minutes, x.pipe(5));
        }
        int[] above = {10, 11, 59, 60};
        for (int minutes : above) {
            Twin.refused("above 9999", Twin.STATE, Twin::minute9990, x -> x.pass(minutes));
        }
        Twin.refused("9999, and one more", Twin.STATE, Twin::minute9999, x -> x.pass(1));
        Twin.refused("9999, and 60 more", Twin.STATE, Twin::minute9999, x -> x.pass(60));
        Twin.refused("pass, no segments", Twin.STATE, Twin::fresh, x -> x.pass(1));
        Twin.refused("pass, closed", Twin.STATE, Twin::told, x -> x.pass(60));
    }

    private static void passListsArgumentsFirst() {
        Twin.Calls[] states = {Twin::fresh, Twin::told, Twin::minute9990, Twin::minute9999};
        int[] wrong = {0, -1, 61, Integer.MIN_VALUE, Integer.MAX_VALUE};
        for (Twin.Calls state : states) {
            for (int minutes : wrong) {
                Twin.refused("minutes ahead of the state", Twin.ARGUMENT, state, x -> x.pass(minutes));
            }
        }
    }

    private static void batchListsIndicesFirst() {
        int[] wrong = {-1, 8, Integer.MIN_VALUE, Integer.MAX_VALUE};
        for (int what : wrong) {
            Twin.refused("batch -1 ahead of what", Twin.INDEX, Twin::running, x -> x.batch(-1, what));
            Twin.refused("batch 3 ahead of what", Twin.INDEX, Twin::running, x -> x.batch(3, what));
            Twin.refused("batch 0, closed, ahead of what", Twin.INDEX, Twin::told, x -> x.batch(0, what));
            Twin.refused("batch 40 ahead of what", Twin.INDEX, Twin::batches40, x -> x.batch(40, what));
        }
        for (int k = 0; k < 8; k++) {
            int what = k;
            Twin.refused("batch 0 of a closed pipe", Twin.INDEX, Twin::told, x -> x.batch(0, what));
        }
    }

    private static void pressureOfAClosedPipe() {
        for (int s = 0; s < 3; s++) {
            int segment = s;
            Twin.refused("pressure, closed", Twin.STATE, Twin::told, x -> x.pressure(segment, 0));
            Twin.refused("pressure, closed", Twin.STATE, Twin::told, x -> x.pressure(segment, 10));
            Twin.refused("units ahead of closed", Twin.ARGUMENT, Twin::told, x -> x.pressure(segment, -1));
            Twin.refused("units ahead of closed", Twin.ARGUMENT, Twin::told, x -> x.pressure(segment, 11));
        }
        Twin.refused("segment ahead of closed", Twin.INDEX, Twin::told, x -> x.pressure(3, 0));
        for (int units : WRONG_UNITS) {
            Twin.refused("segment ahead of all", Twin.INDEX, Twin::told, x -> x.pressure(3, units));
            Twin.refused("segment ahead of units", Twin.INDEX, Twin::running, x -> x.pressure(3, units));
            Twin.refused("segment ahead of units", Twin.INDEX, Twin::running, x -> x.pressure(-1, units));
            Twin.refused("no segments, ahead of all", Twin.INDEX, Twin::fresh, x -> x.pressure(0, units));
        }
    }

    private static void tankAndShareListIndicesFirst() {
        int[] wrong = {-1, 10000, Integer.MIN_VALUE, Integer.MAX_VALUE};
        for (int value : wrong) {
            Twin.refused("tank -1 ahead of what", Twin.INDEX, Twin::running, x -> x.tank(-1, value));
            Twin.refused("tank 4 ahead of what", Twin.INDEX, Twin::running, x -> x.tank(4, value));
            Twin.refused("shipper -1 ahead of units", Twin.INDEX, Twin::running, x -> x.share(-1, value));
            Twin.refused("shipper 4 ahead of units", Twin.INDEX, Twin::running, x -> x.share(4, value));
        }
    }

    private static void unitsOfAClosedPipe() {
        Twin.Calls[] closed = {Twin::fresh, Twin::told, Twin::sixSegments};
        for (Twin.Calls state : closed) {
            BatchPipe x = new BatchPipe();
            state.on(x);
            int[] units = {0, 1, 17, 18, Integer.MAX_VALUE};
            for (int unit : units) {
                Check.due("unit, closed", -1, x.unit(unit));
                Check.due("unitAnew, closed", -1, x.unitAnew(unit));
            }
            Check.index("unit -1, closed", () -> x.unit(-1));
            Check.index("unitAnew -1, closed", () -> x.unitAnew(-1));
        }
    }
}
