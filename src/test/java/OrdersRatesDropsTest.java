/** Promises 5 to 12: order, rate, drop, leak, receive, empty, launch, pass. */
public final class OrdersRatesDropsTest {
    public static void main(String[] args) {
        orderIsNumbered();
        orderRefuses();
        ordersAreAtMostForty();
        ordersWaitInTheirOrder();
        rateAnswersTheOneBefore();
        dropTakesOnTheWay();
        dropRefuses();
        dropIsReplacedAndEnded();
        leakTakesOnTheWay();
        leakComesAheadOfTheDrop();
        leakRefuses();
        leakIsReplacedAndEnded();
        receiveTurnsTheOutlet();
        emptyPoursOut();
        launchRefuses();
        pigCleansToTheOutlet();
        pigCleansToWhereItWent();
        passAnswersWhatEntered();
        passRefuses();
        passEndsAtTheLastMinute();
        Check.end();
    }

    private static void orderIsNumbered() {
        BatchPipe x = new BatchPipe();
        Check.due("order ahead of the opening", 1, x.order(3, 5, 200));
        Check.due("its product", 5, x.batch(1, 7));
        Check.due("what waits of it", 200, x.batch(1, 5));
        Check.due("what entered of it", 0, x.batch(1, 1));
        Check.index("no batch 0 yet", () -> x.batch(0, 7));
        Check.due("order, least", 2, x.order(0, 0, 1));
        x.segment(5, 0, 500);
        x.open(2);
        Check.due("order behind the opening", 3, x.order(1, 1, 7));
        Check.due("the batch 0 has its own product", 2, x.batch(0, 7));
        Check.due("what waits of the third", 7, x.batch(3, 5));
        Check.due("its shipper waits", 7, x.share(1, 9999));
    }

    private static void orderRefuses() {
        BatchPipe x = new BatchPipe();
        Check.index("shipper -1", () -> x.order(-1, 0, 1));
        Check.index("shipper 4", () -> x.order(4, 0, 1));
        Check.index("product -1", () -> x.order(0, -1, 1));
        Check.index("product 6", () -> x.order(0, 6, 1));
        Check.index("product 6, the index first", () -> x.order(0, 6, 0));
        Check.argument("units 0", () -> x.order(0, 0, 0));
        Check.argument("units 201", () -> x.order(0, 0, 201));
        Check.argument("units, least int", () -> x.order(0, 0, Integer.MIN_VALUE));
        Check.index("nothing was ordered", () -> x.batch(1, 0));
        Check.due("the first that is not refused", 1, x.order(0, 0, 1));
    }

    private static void ordersAreAtMostForty() {
        BatchPipe x = new BatchPipe();
        for (int k = 1; k <= 39; k++) {
            Check.due("order " + k, k, x.order(k % 4, k % 6, k));
        }
        Check.state("order 40", () -> x.order(0, 0, 1));
        Check.argument("order 40, the argument first", () -> x.order(0, 0, 201));
        Check.index("order 40, the index first", () -> x.order(4, 0, 201));
        Check.due("the last one", 39, x.batch(39, 5));
        Check.index("no batch 40", () -> x.batch(40, 5));
        x.segment(5, 0, 500);
        x.open(0);
        Check.state("order 40, open", () -> x.order(0, 0, 1));
        x.rate(10);
        Check.due("all of them enter", 780, x.pass(60) + x.pass(60));
    }

    private static void ordersWaitInTheirOrder() {
        BatchPipe x = new BatchPipe();
        x.segment(5, 0, 500);
        x.product(0, 8, 3, 0, 2);
        x.product(2, 8, 3, 2, 8);
        x.open(0);
        x.order(0, 1, 2);
        x.order(0, 2, 2);
        x.order(0, 3, 2);
        x.order(0, 1, 2);
        x.rate(1);
        int[] due = {2, 2, 1, 1, 3, 3, 4, 4};
        for (int batch : due) {
            x.pass(1);
            Check.due("what entered last", batch, x.unit(4));
        }
        Check.due("nothing waits", 0, x.pass(1));
        Check.due("nothing moves", 4, x.unit(4));
        BatchPipe y = Pipes.opened(0, 5);
        y.order(0, 1, 9);
        y.rate(4);
        y.pass(1);
        y.product(1, 8, 3, 1, 61);
        Check.due("a batch that has begun goes on, whatever it bears", 4, y.pass(1));
    }

    private static void rateAnswersTheOneBefore() {
        BatchPipe x = new BatchPipe();
        Check.due("rate, first", 0, x.rate(10));
        Check.due("rate, greatest before", 10, x.rate(0));
        Check.due("rate, least before", 0, x.rate(4));
        Check.argument("rate -1", () -> x.rate(-1));
        Check.argument("rate 11", () -> x.rate(11));
        Check.argument("rate, least int", () -> x.rate(Integer.MIN_VALUE));
        Check.due("a refused one is not told", 4, x.rate(4));
        x.segment(5, 0, 500);
        x.open(0);
        x.order(0, 0, 50);
        Check.due("as many as the rate", 4, x.pass(1));
        x.rate(0);
        Check.due("none at the rate 0", 0, x.pass(3));
        x.rate(10);
        Check.due("ten at the rate 10", 10, x.pass(1));
    }

    private static void dropTakesOnTheWay() {
        BatchPipe x = Pipes.opened(0, 5, 6, 7);
        x.order(0, 1, 100);
        x.rate(5);
        x.drop(1, 2, 3);
        Check.due("what entered", 5, x.pass(1));
        Check.due("what dropped", 2, x.batch(0, 3));
        Check.due("what left", 3, x.batch(0, 2));
        Check.due("the tank of the drop", 2, x.tank(3, 0));
        Check.due("the tank at the outlet", 3, x.tank(0, 0));
        Check.due("what is in the pipe", 13, x.batch(0, 0));
        Check.due("the first that entered", 1, x.unit(13));
        Check.due("the one ahead of it", 0, x.unit(12));
        // The first that entered is at the end of the segment 1 when 11 entered: the second one that
        // the drop takes in the third minute is it, and three go on to the outlet.
        x.pass(1);
        Check.due("10 entered, none of them at the drop", 4, x.batch(0, 3));
        x.pass(1);
        Check.due("one of the batch 0", 5, x.batch(0, 3));
        Check.due("one of the batch 1", 1, x.batch(1, 3));
        x.drop(1, 3, 3);
        x.pass(1);
        Check.due("three more of the batch 1", 4, x.batch(1, 3));
        Check.due("they came into its tank", 9, x.tank(3, 0));
        x.drop(0, 10, 2);
        x.pass(1);
        Check.due("a drop greater than the rate takes all", 5, x.tank(2, 0));
        Check.due("none at the outlet", 3 + 3 + 3 + 2, x.tank(0, 0));
    }

    private static void dropRefuses() {
        BatchPipe x = new BatchPipe();
        Check.index("no segments", () -> x.drop(0, 1, 0));
        Check.fine("none, without segments", () -> x.drop(-1, 1, 0));
        x.segment(5, 0, 500);
        Check.index("the last one of one", () -> x.drop(0, 1, 0));
        x.segment(5, 0, 500);
        Check.fine("no longer the last one", () -> x.drop(0, 1, 0));
        Check.index("the last one of two", () -> x.drop(1, 1, 0));
        Check.index("no such segment", () -> x.drop(2, 1, 0));
        Check.index("segment -2", () -> x.drop(-2, 1, 0));
        Check.index("segment, least int", () -> x.drop(Integer.MIN_VALUE, 1, 0));
        Check.index("tank -1", () -> x.drop(0, 1, -1));
        Check.index("tank 4", () -> x.drop(0, 1, 4));
        Check.index("tank 4, none", () -> x.drop(-1, 1, 4));
        Check.index("the index first", () -> x.drop(0, 0, 4));
        Check.argument("units 0", () -> x.drop(0, 0, 0));
        Check.argument("units 11", () -> x.drop(0, 11, 0));
        Check.argument("units 0, none", () -> x.drop(-1, 0, 0));
        Check.fine("greatest", () -> x.drop(0, 10, 3));
        Check.argument("refused", () -> x.drop(-1, 11, 0));
        x.open(0);
        x.order(0, 0, 50);
        x.rate(5);
        x.pass(1);
        Check.due("what was refused changed nothing", 5, x.tank(3, 0));
    }

    private static void dropIsReplacedAndEnded() {
        BatchPipe x = Pipes.opened(0, 5, 5, 5);
        x.order(0, 0, 100);
        x.rate(4);
        x.pass(1);
        Check.due("none at first", 0, x.batch(0, 3));
        x.drop(0, 4, 1);
        x.drop(1, 1, 2);
        x.pass(1);
        Check.due("the one before is gone", 0, x.tank(1, 0));
        Check.due("the new one takes", 1, x.tank(2, 0));
        x.drop(-1, 4, 1);
        x.pass(2);
        Check.due("none any more", 1, x.tank(2, 0));
        Check.due("nor into the tank told with none", 0, x.tank(1, 0));
        x.drop(0, 2, 0);
        x.pass(1);
        Check.due("into the tank at the outlet", 4 + 3 + 8 + 4, x.tank(0, 0));
    }

    private static void leakTakesOnTheWay() {
        BatchPipe x = Pipes.opened(0, 5, 5);
        x.order(0, 1, 100);
        x.rate(3);
        x.leak(0, 2);
        Check.due("what entered", 3, x.pass(1));
        Check.due("what leaked", 2, x.batch(0, 4));
        Check.due("what left", 1, x.batch(0, 2));
        Check.due("into the tank", 1, x.tank(0, 0));
        Check.due("the balance", 2, x.pipe(1));
        Check.due("spilled is another thing", 0, x.pipe(3));
        x.pass(1);
        // Five of the batch 1 lie in segment 0 behind the first five steps; the sixth takes the first
        // unit of it along.
        Check.due("four of the batch 0 leaked", 4, x.batch(0, 4));
        x.pass(1);
        Check.due("two of the batch 1 leaked", 2, x.batch(1, 4));
        Check.due("what is in the pipe of it", 7, x.batch(1, 0));
    }

    private static void leakComesAheadOfTheDrop() {
        BatchPipe x = Pipes.opened(0, 5, 5, 5);
        x.order(0, 0, 100);
        x.rate(5);
        x.drop(0, 2, 1);
        x.leak(1, 2);
        x.pass(1);
        Check.due("leaked", 2, x.batch(0, 4));
        Check.due("dropped", 2, x.tank(1, 0));
        Check.due("left", 1, x.batch(0, 2));
        x.rate(3);
        x.pass(1);
        Check.due("leaked, of three", 4, x.batch(0, 4));
        Check.due("dropped, of three", 3, x.tank(1, 0));
        Check.due("left, of three", 1, x.batch(0, 2));
        x.rate(1);
        x.pass(1);
        Check.due("leaked, of one", 5, x.batch(0, 4));
        Check.due("dropped, of one", 3, x.tank(1, 0));
        x.leak(0, 10);
        x.rate(10);
        x.pass(1);
        Check.due("the leak takes all, at the very segment of the drop", 3, x.tank(1, 0));
    }

    private static void leakRefuses() {
        BatchPipe x = new BatchPipe();
        Check.index("no segments", () -> x.leak(0, 1));
        Check.fine("none, without segments", () -> x.leak(-1, 10));
        x.segment(5, 0, 500);
        Check.index("the last one of one", () -> x.leak(0, 1));
        x.segment(5, 0, 500);
        Check.index("the last one of two", () -> x.leak(1, 1));
        Check.index("no such segment", () -> x.leak(2, 1));
        Check.index("segment -2", () -> x.leak(-2, 1));
        Check.index("the index first", () -> x.leak(1, 0));
        Check.fine("greatest", () -> x.leak(0, 10));
        Check.argument("units 0", () -> x.leak(0, 0));
        Check.argument("units 11", () -> x.leak(0, 11));
        Check.argument("units 0, none", () -> x.leak(-1, 0));
        Check.argument("units 11, none", () -> x.leak(-1, 11));
        x.open(0);
        x.order(0, 0, 50);
        x.rate(10);
        x.pass(1);
        Check.due("what was refused changed nothing", 10, x.batch(0, 4) + x.batch(1, 4));
    }

    private static void leakIsReplacedAndEnded() {
        BatchPipe x = Pipes.opened(0, 5, 5, 5);
        x.order(0, 0, 100);
        x.rate(2);
        x.pass(1);
        Check.due("none at first", 0, x.batch(0, 4));
        x.leak(0, 2);
        x.leak(1, 1);
        x.pass(1);
        Check.due("the one before is gone", 1, x.batch(0, 4));
        x.leak(-1, 2);
        x.pass(2);
        Check.due("none any more", 1, x.batch(0, 4));
    }

    private static void receiveTurnsTheOutlet() {
        BatchPipe x = new BatchPipe();
        Check.due("receive, first", 0, x.receive(2));
        Check.due("receive, the one before", 2, x.receive(3));
        Check.index("receive(-1)", () -> x.receive(-1));
        Check.index("receive(4)", () -> x.receive(4));
        x.segment(5, 0, 500);
        x.segment(5, 0, 500);
        x.open(1);
        x.order(0, 1, 50);
        x.rate(2);
        x.pass(1);
        Check.due("told ahead of the opening", 2, x.tank(3, 0));
        Check.due("the one before, open", 3, x.receive(1));
        x.pass(2);
        Check.due("from now on", 4, x.tank(1, 0));
        Check.due("no more", 2, x.tank(3, 0));
        x.drop(0, 1, 2);
        x.pass(1);
        Check.due("the drop has a tank of its own", 1, x.tank(2, 0));
        Check.due("the outlet keeps its tank", 5, x.tank(1, 0));
    }

    private static void emptyPoursOut() {
        BatchPipe x = Pipes.opened(0, 5);
        x.order(0, 4, 150);
        x.rate(10);
        x.pass(1);
        Check.due("has", 10, x.tank(0, 0));
        Check.due("grade", 4, x.tank(0, 1));
        // The last one of the batch 0 at the mix 2, the first one behind it at the mix 2.
        Check.due("mixed", 2, x.tank(0, 2));
        Check.index("empty(-1)", () -> x.empty(-1));
        Check.index("empty(4)", () -> x.empty(4));
        Check.due("another one", 0, x.empty(1));
        Check.due("still has", 10, x.tank(0, 0));
        Check.due("empty", 10, x.empty(0));
        Check.due("has nothing", 0, x.tank(0, 0));
        Check.due("has no grade", -1, x.tank(0, 1));
        Check.due("has no mixed ones", 0, x.tank(0, 2));
        Check.due("empty again", 0, x.empty(0));
        x.product(4, 8, 3, 1, 0);
        x.pass(12);
        Check.due("full", 100, x.tank(0, 0));
        Check.due("the grade since it was empty", 1, x.tank(0, 1));
        Check.due("spilled", 20, x.pipe(3));
        Check.due("empty, full", 100, x.empty(0));
        Check.due("spilled stays", 20, x.pipe(3));
        x.pass(1);
        Check.due("has room again", 10, x.tank(0, 0));
    }

    private static void launchRefuses() {
        BatchPipe x = new BatchPipe();
        Check.state("launch, no segments", () -> x.launch());
        x.segment(5, 0, 500);
        Check.state("launch, closed", () -> x.launch());
        Check.due("none in it", 0, x.pipe(4));
        x.open(0);
        Check.fine("launch, just opened", () -> x.launch());
        Check.due("in it", 1, x.pipe(4));
        Check.state("launch, one in it", () -> x.launch());
        x.order(0, 0, 50);
        x.rate(1);
        x.pass(4);
        Check.due("still in it", 1, x.pipe(4));
        Check.state("launch, still in it", () -> x.launch());
        x.pass(1);
        Check.due("out", 0, x.pipe(4));
        Check.fine("launch again", () -> x.launch());
        Check.due("in it again", 1, x.pipe(4));
    }

    private static void pigCleansToTheOutlet() {
        BatchPipe x = Pipes.opened(0, 5, 5, 5);
        x.order(0, 0, 100);
        x.rate(1);
        x.pass(7);
        x.launch();
        x.pass(14);
        Check.due("in it behind 14", 1, x.pipe(4));
        Check.due("dirt ahead of that", 21, x.dirt(2));
        x.pass(1);
        Check.due("out behind 15", 0, x.pipe(4));
        // Clean when it went, and one more behind that minute.
        Check.due("dirt of the first", 1, x.dirt(0));
        Check.due("dirt of the second", 1, x.dirt(1));
        Check.due("dirt of the last", 1, x.dirt(2));
    }

    private static void pigCleansToWhereItWent() {
        BatchPipe x = Pipes.opened(0, 5, 5, 5);
        x.order(0, 0, 100);
        x.rate(2);
        x.pass(10);
        x.launch();
        x.drop(1, 2, 1);
        x.pass(4);
        Check.due("in it, ahead of the drop", 1, x.pipe(4));
        x.pass(1);
        Check.due("out by the drop", 0, x.pipe(4));
        Check.due("drop: the first is clean", 1, x.dirt(0));
        Check.due("drop: its own is clean", 1, x.dirt(1));
        Check.due("drop: the one behind is not", 15, x.dirt(2));
        x.drop(-1, 1, 0);
        x.launch();
        x.leak(0, 2);
        x.pass(3);
        Check.due("out by the leak", 0, x.pipe(4));
        Check.due("leak: its own is clean", 1, x.dirt(0));
        Check.due("leak: the next is not", 4, x.dirt(1));
        Check.due("leak: nor the last", 18, x.dirt(2));
        x.leak(-1, 1);
        x.launch();
        x.pass(1);
        x.leak(1, 1);
        x.pass(3);
        Check.due("those that go ahead of it are not it", 1, x.pipe(4));
    }

    private static void passAnswersWhatEntered() {
        BatchPipe x = Pipes.opened(0, 5);
        x.rate(7);
        Check.due("nothing waits", 0, x.pass(1));
        Check.due("the minute goes on", 1, x.pipe(5));
        x.order(0, 1, 20);
        Check.due("seven", 7, x.pass(1));
        Check.due("the rest", 13, x.pass(60));
        Check.due("the minutes", 62, x.pipe(5));
        Check.due("nothing more", 0, x.pass(1));
        Check.due("the whole batch", 20, x.batch(1, 1));
        Check.due("of the batch 0 all left", 5, x.batch(0, 2));
        Check.due("of it none came in anew", 5, x.batch(0, 1));
    }

    private static void passRefuses() {
        BatchPipe x = new BatchPipe();
        Check.argument("pass(0), closed", () -> x.pass(0));
        Check.argument("pass(61), closed", () -> x.pass(61));
        Check.state("pass(60), closed", () -> x.pass(60));
        x.segment(5, 0, 500);
        Check.state("pass(1), not opened yet", () -> x.pass(1));
        x.open(0);
        x.order(0, 0, 50);
        x.rate(1);
        Check.argument("pass(0)", () -> x.pass(0));
        Check.argument("pass(-1)", () -> x.pass(-1));
        Check.argument("pass(61)", () -> x.pass(61));
        Check.argument("pass, greatest int", () -> x.pass(Integer.MAX_VALUE));
        Check.due("no minute passed", 0, x.pipe(5));
        Check.due("nothing entered", 0, x.batch(1, 1));
        Check.due("pass(60)", 50, x.pass(60));
    }

    private static void passEndsAtTheLastMinute() {
        BatchPipe x = Pipes.opened(0, 5);
        for (int k = 0; k < 166; k++) {
            x.pass(60);
        }
        Check.due("the minute", 9960, x.pipe(5));
        x.order(0, 0, 50);
        x.rate(1);
        Check.state("above 9999", () -> x.pass(40));
        Check.argument("above 9999, the argument first", () -> x.pass(61));
        Check.due("nothing entered", 0, x.batch(1, 1));
        Check.due("up to 9999", 39, x.pass(39));
        Check.due("the last minute", 9999, x.pipe(5));
        Check.state("no minute more", () -> x.pass(1));
        Check.argument("no minute more, the argument first", () -> x.pass(0));
        Check.due("the minute stays", 9999, x.pipe(5));
    }
}
