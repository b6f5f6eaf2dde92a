/**
 * The sentences of "The pipe", "Products" and "Batches" that name an edge, one method each, in the document's
 * order: on the edge, just inside of it and just outside. What is refused stands in RangesTest and RefusedTest.
 */
public final class PipeTermsTest {
    public static void main(String[] args) {
        minuteIsNoneAtFirst();
        segmentsAreNumberedFromTheInlet();
        segmentHoldsFiveToSixty();
        segmentEndsAtAHeightOfUpToFifty();
        segmentHasALimitOfTenToFiveHundred();
        inletIsAtTheHeightNone();
        pipeIsFullOfTheBatchNone();
        productsWeighOneToTen();
        productsAreThickOneToTen();
        productsHaveGradesOfUpToNine();
        productsAreGradedByTheirNumberAtFirst();
        setOfProductsIsMetOneByOne();
        neighboursAreAskedOnlyWhereTheyEnter();
        batchesAreNumberedFromOneOn();
        unitEntersOfTheBatchThatHasBegun();
        otherwiseOfTheFirstThatFollows();
        otherwiseNothingEntersAndNothingMoves();
        callsUpToTheLastOne();
        Check.end();
    }

    private static void minuteIsNoneAtFirst() {
        BatchPipe x = new BatchPipe();
        Check.due("the minute of a new object", 0, x.pipe(5));
        x.segment(5, 0, 10);
        x.open(0);
        Check.due("the minute of an open pipe", 0, x.pipe(5));
        Check.argument("no minutes", () -> x.pass(0));
        Check.due("the minute behind a refused call", 0, x.pipe(5));
        x.pass(1);
        Check.due("the minute, though nothing moved", 1, x.pipe(5));
        x.pass(59);
        Check.due("59 more", 60, x.pipe(5));
        x.pass(60);
        Check.due("60 more", 120, x.pipe(5));
    }

    private static void segmentsAreNumberedFromTheInlet() {
        BatchPipe x = Pipes.running(5, 1, 50, 5, 6, 7);
        x.leak(0, 5);
        x.pass(1);
        Check.due("the segment 0 is at the inlet", "000000000000011111", Pipes.units(x));
        x.pass(1);
        Check.due("and all that goes at its end is of the batch 1", 5, x.batch(1, 4));
    }

    private static void segmentHoldsFiveToSixty() {
        int[] edges = {5, 6, 59, 60};
        for (int holds : edges) {
            BatchPipe x = new BatchPipe();
            Check.due("number", 0, x.segment(holds, 0, 500));
            Check.due("so many units", holds, x.open(0));
            Check.due("the last of them", 0, x.unit(holds - 1));
            Check.due("none behind it", -1, x.unit(holds));
            x.order(0, 1, 200);
            x.rate(1);
            x.pass(holds);
            Check.due("the first one that entered is at the outlet", 1, x.unit(0));
            Check.due("and has not left", 0, x.batch(1, 2));
            x.pass(1);
            Check.due("and leaves", 1, x.batch(1, 2));
        }
    }

    private static void segmentEndsAtAHeightOfUpToFifty() {
        int[] edges = {0, 1, 49, 50};
        for (int height : edges) {
            BatchPipe x = new BatchPipe();
            x.segment(5, height, 500);
            x.segment(5, 0, 500);
            x.segment(5, 50, 500);
            x.open(0);
            Check.due("the head at its end goes", 400 - 8 * height, x.pressure(1, 0));
            BatchPipe y = new BatchPipe();
            y.segment(5, height, 500);
            y.open(0);
            Check.due("the head at the outlet comes", 8 * height, y.pressure(0, 0));
        }
    }

    private static void segmentHasALimitOfTenToFiveHundred() {
        // At rest 9, and 50 hundredths a unit of the rate.
        Check.due("10 at the limit 10", 2, rateAt(9, 1, 1, 10));
        Check.due("11 at the limit 11", 4, rateAt(9, 1, 1, 11));
        // At rest 490, and 500 hundredths a unit of the rate.
        Check.due("495 at the limit 499", 1, rateAt(49, 10, 10, 499));
        Check.due("500 at the limit 500", 2, rateAt(49, 10, 10, 500));
    }

    private static int rateAt(int height, int weight, int thickness, int limit) {
        BatchPipe x = new BatchPipe();
        x.segment(50, height, limit);
        x.product(0, weight, thickness, 0, 0);
        x.open(0);
        x.order(0, 0, 100);
        x.rate(10);
        return x.pass(1);
    }

    private static void inletIsAtTheHeightNone() {
        BatchPipe x = new BatchPipe();
        x.segment(5, 50, 500);
        x.open(0);
        Check.due("nothing goes from the segment 0, whatever enters", 400, x.pressure(0, 0));
        x.product(0, 1, 3, 0, 0);
        Check.due("however light it is", 50, x.pressure(0, 0));
    }

    private static void pipeIsFullOfTheBatchNone() {
        BatchPipe x = new BatchPipe();
        x.segment(5, 0, 10);
        x.order(0, 3, 7);
        Check.due("closed", "", Pipes.units(x));
        Check.index("no batch 0 ahead of the opening", () -> x.batch(0, 0));
        x.open(2);
        Check.due("open", "00000", Pipes.units(x));
        int[] due = {5, 5, 0, 0, 0, 0, 0, 2};
        for (int what = 0; what < 8; what++) {
            Check.due("the batch 0, " + what, due[what], x.batch(0, what));
        }
        Check.due("the batch that was told ahead keeps its number", 3, x.batch(1, 7));
    }

    private static void productsWeighOneToTen() {
        int[] edges = {1, 2, 9, 10};
        for (int weight : edges) {
            BatchPipe x = new BatchPipe();
            x.segment(5, 50, 500);
            x.open(4);
            Check.due("8 at first", 400, x.pressure(0, 0));
            x.product(4, weight, 3, 4, 0);
            Check.due("told", 50 * weight, x.pressure(0, 0));
        }
    }

    private static void productsAreThickOneToTen() {
        int[] edges = {1, 2, 9, 10};
        for (int thickness : edges) {
            BatchPipe x = new BatchPipe();
            x.segment(20, 0, 500);
            x.open(4);
            Check.due("3 at first", 3, x.pressure(0, 5));
            x.product(4, 8, thickness, 4, 0);
            Check.due("told", thickness, x.pressure(0, 5));
        }
    }

    private static void productsHaveGradesOfUpToNine() {
        int[] edges = {0, 1, 8, 9};
        for (int grade : edges) {
            BatchPipe x = Pipes.running(1, 0, 10, 5);
            x.product(0, 8, 3, grade, 0);
            Check.due("none came yet", -1, x.tank(0, 1));
            x.pass(1);
            Check.due("the grade of what came", grade, x.tank(0, 1));
        }
    }

    private static void productsAreGradedByTheirNumberAtFirst() {
        for (int p = 0; p < 6; p++) {
            BatchPipe x = Pipes.opened(p, 5);
            x.order(0, p, 5);
            x.rate(1);
            x.pass(1);
            Check.due("the grade at first", p, x.tank(0, 1));
        }
    }

    /** Each set of others is met one by one: just those enter that are not in it. */
    private static void setOfProductsIsMetOneByOne() {
        for (int set = 0; set < 64; set++) {
            for (int p = 0; p < 6; p++) {
                int first = set % 2 == 0 ? 0 : 5;
                int barred = set & ~(1 << first);
                BatchPipe x = Pipes.opened(first, 5);
                x.product(first, 8, 3, 0, barred);
                x.order(0, p, 2);
                x.rate(1);
                boolean isBarred = barred / (1 << p) % 2 != 0;
                Check.due(first + " bars " + barred + ", and " + p + " waits", isBarred ? 0 : 1, x.pass(1));
            }
        }
    }

    /** What the drop or the leak brings together is not asked, nor what was told when they had entered. */
    private static void neighboursAreAskedOnlyWhereTheyEnter() {
        for (int way = 0; way < 2; way++) {
            BatchPipe x = new BatchPipe();
            x.product(0, 8, 3, 0, 1 << 2);
            x.segment(5, 0, 500);
            x.segment(5, 0, 500);
            x.open(0);
            x.order(0, 1, 1);
            x.order(0, 2, 20);
            x.rate(1);
            Check.due("the batch between them, and four more", 5, x.pass(5));
            Check.due("ahead of it", "0000012222", Pipes.units(x));
            if (way == 0) {
                x.drop(0, 1, 3);
            } else {
                x.leak(0, 1);
            }
            Check.due("the batch between them goes", 1, x.pass(1));
            Check.due("two that do not bear each other", "0000022222", Pipes.units(x));
            x.drop(-1, 1, 0);
            x.leak(-1, 1);
            Check.due("and go on", 2, x.pass(2));
            Check.due("both of them", "0002222222", Pipes.units(x));
        }
        BatchPipe y = Pipes.running(1, 1, 20, 5);
        y.pass(2);
        y.product(0, 8, 3, 0, 1 << 1);
        Check.due("those that have entered are not asked again", 1, y.pass(1));
    }

    private static void batchesAreNumberedFromOneOn() {
        BatchPipe x = new BatchPipe();
        Check.due("the first", 1, x.order(3, 5, 1));
        Check.due("the second", 2, x.order(3, 5, 200));
        x.segment(5, 0, 10);
        x.open(0);
        Check.due("the third, open", 3, x.order(0, 0, 199));
        Check.due("one unit", 1, x.batch(1, 5));
        Check.due("200 units", 200, x.batch(2, 5));
        Check.due("199 units", 199, x.batch(3, 5));
        Check.index("no fourth", () -> x.batch(4, 5));
    }

    private static void unitEntersOfTheBatchThatHasBegun() {
        BatchPipe x = Pipes.running(2, 1, 5, 7);
        x.order(0, 1, 1);
        x.order(0, 0, 3);
        x.pass(2);
        Check.due("one is left", 1, x.batch(1, 5));
        Check.due("the next one waits", 0, x.batch(2, 1));
        // Though neither bears itself beside the other any more.
        x.product(1, 8, 3, 1, 61);
        Check.due("the one that is left, and the next one", 2, x.pass(1));
        Check.due("none is left", 0, x.batch(1, 5));
        Check.due("the next one entered", 1, x.batch(2, 1));
        Check.due("the product 0 does not follow now", 0, x.pass(1));
        x.product(1, 8, 3, 1, 60);
        Check.due("and does now", 2, x.pass(1));
    }

    private static void otherwiseOfTheFirstThatFollows() {
        BatchPipe x = new BatchPipe();
        x.product(0, 8, 3, 0, 1 << 1);
        x.product(2, 8, 3, 2, 1 << 0);
        x.segment(9, 0, 500);
        x.open(0);
        x.order(0, 1, 1);
        x.order(0, 2, 1);
        x.order(0, 1, 1);
        x.order(0, 3, 1);
        x.order(0, 4, 1);
        x.rate(1);
        // The product 0 bears neither 1 nor 2; behind the product 3 all of them do.
        Check.due("one", 1, x.pass(1));
        Check.due("the first three do not follow", "000000004", Pipes.units(x));
        x.pass(1);
        Check.due("the first one that waits", "000000041", Pipes.units(x));
        x.pass(3);
        Check.due("the others as they were told", "000041235", Pipes.units(x));
    }

    private static void otherwiseNothingEntersAndNothingMoves() {
        BatchPipe x = Pipes.running(4, 1, 6, 5, 5);
        x.pass(1);
        x.drop(0, 1, 2);
        x.leak(0, 1);
        x.launch();
        Check.due("two of them", 2, x.pass(1));
        String ahead = Pipes.units(x);
        int dirt = x.dirt(0);
        int[] gone = {x.batch(0, 2), x.batch(0, 3), x.batch(0, 4), x.batch(1, 6), x.tank(0, 0), x.tank(2, 0)};
        x.product(1, 8, 3, 1, 1);
        x.order(0, 0, 9);
        Check.due("one waits, but does not follow", 0, x.pass(3));
        Check.due("nothing moves", ahead, Pipes.units(x));
        Check.due("no dirt", dirt, x.dirt(0));
        int[] behind = {x.batch(0, 2), x.batch(0, 3), x.batch(0, 4), x.batch(1, 6), x.tank(0, 0), x.tank(2, 0)};
        for (int k = 0; k < gone.length; k++) {
            Check.due("nothing goes, " + k, gone[k], behind[k]);
        }
        Check.due("the pig stays", 1, x.pipe(4));
        Check.due("the rate is found all the same", 4, x.pipe(0));
        x.order(0, 2, 1);
        Check.due("one that follows", 4, x.pass(1));
        Check.due("it, and the one that follows it", 1, x.batch(3, 1));
        Check.due("three of that", 3, x.batch(2, 1));
    }

    /** The 512th call answers as it should. */
    private static void callsUpToTheLastOne() {
        BatchPipe x = Pipes.running(1, 1, 200, 5);
        x.order(0, 2, 200);
        for (int calls = 5; calls < 510; calls++) {
            x.pass(1);
        }
        Check.due("the 511th call", 400, x.batch(1, 1) + x.batch(2, 1));
        BatchPipe y = Pipes.running(10, 1, 200, 5);
        for (int calls = 4; calls < 511; calls++) {
            y.rate(1 - calls % 2);
        }
        Check.due("the 512th call", 60, y.pass(60));
    }
}
