/**
 * The sentences of "A minute", of pigs, leaks and shares that name an edge, one method each, in the document's
 * order: on the edge, just inside of it and just outside.
 */
public final class MinuteTermsTest {
    public static void main(String[] args) {
        rateIsAtMostWhatIsTold();
        noPressureIsAboveItsLimit();
        limitOfEachSegmentCounts();
        rateIsNoneIfThereIsNone();
        frictionIsRoundedUp();
        weightIsThatOfTheLastUnits();
        pressureIsNoneAtLeast();
        leakTakesAsManyAsItDoes();
        dropTakesAsManyAsItDoes();
        theyTakeTheLastUnitOfTheirSegment();
        fullTankSpills();
        dirtIsMoreByOneIfAnyUnitMoved();
        dirtIsAtMost200();
        pigIsOutWithItsUnit();
        pigCleansUpToWhereItWent();
        balanceIsOfTheLatestFive();
        alarmIsAtThree();
        allThatWaitsIfItIsNotMore();
        sharesAreRoundedDown();
        shareIsNotMoreThanWhatWaits();
        sharesOfTheGreatestNumbers();
        Check.end();
    }

    private static void rateIsAtMostWhatIsTold() {
        int[] rates = {0, 1, 9, 10};
        for (int rate : rates) {
            BatchPipe x = Pipes.running(rate, 0, 50, 5);
            Check.due("as many as the rate", rate, x.pass(1));
            Check.due("the rate", rate, x.pipe(0));
            Check.due("the rate, again", rate, x.pass(1));
        }
    }

    private static BatchPipe thick(int holds, int thickness, int height, int limit) {
        BatchPipe x = new BatchPipe();
        x.segment(holds, height, limit);
        x.product(0, 1, thickness, 0, 0);
        x.open(0);
        x.order(0, 0, 200);
        return x;
    }

    private static void noPressureIsAboveItsLimit() {
        // 2 a unit of the rate: 10 at the rate 5, 12 at the rate 6, and 11 in between at no rate.
        int[] found = {5, 5, 6, 6, 7};
        for (int limit = 10; limit <= 14; limit++) {
            BatchPipe x = thick(20, 10, 0, limit);
            Check.due("pressure at the rate 5", 10, x.pressure(0, 5));
            Check.due("pressure at the rate 6", 12, x.pressure(0, 6));
            x.rate(10);
            Check.due("the limit " + limit, found[limit - 10], x.pass(1));
            BatchPipe y = thick(20, 10, 0, limit);
            y.rate(found[limit - 10] - 1);
            Check.due("below what the limit leaves", found[limit - 10] - 1, y.pass(1));
        }
    }

    private static void limitOfEachSegmentCounts() {
        for (int tight = 0; tight < 6; tight++) {
            BatchPipe x = new BatchPipe();
            for (int k = 0; k < 6; k++) {
                x.segment(20, 0, k == tight ? 12 : 500);
            }
            x.product(0, 1, 5, 0, 0);
            x.open(0);
            x.order(0, 0, 200);
            x.rate(10);
            // 1 a segment and a unit of the rate.
            Check.due("the tight segment is " + tight, Math.min(10, 12 / (6 - tight)), x.pass(1));
        }
    }

    private static void rateIsNoneIfThereIsNone() {
        // The head at rest 10, and 1 more at the rate 1.
        BatchPipe x = thick(10, 10, 10, 10);
        x.rate(10);
        Check.due("above at the rate 1", 0, x.pass(1));
        Check.due("none", 0, x.pipe(0));
        BatchPipe y = thick(10, 10, 10, 11);
        y.rate(10);
        Check.due("at the limit at the rate 1", 1, y.pass(1));
        BatchPipe z = thick(10, 10, 11, 10);
        z.rate(10);
        Check.due("above at rest", 0, z.pass(1));
        Check.due("nothing moved", 0, z.dirt(0));
    }

    private static void frictionIsRoundedUp() {
        BatchPipe x = thick(33, 3, 0, 500);
        Check.due("none", 0, x.pressure(0, 0));
        Check.due("99 hundredths", 1, x.pressure(0, 1));
        Check.due("198 hundredths", 2, x.pressure(0, 2));
        x.rate(1);
        x.pass(1);
        Check.due("100 hundredths, the dirt counted", 1, x.pressure(0, 1));
        Check.due("1000 hundredths", 10, x.pressure(0, 10));
        x.pass(1);
        Check.due("101 hundredths", 2, x.pressure(0, 1));
        Check.due("1010 hundredths", 11, x.pressure(0, 10));
        Check.due("still none", 0, x.pressure(0, 0));
        BatchPipe y = thick(5, 1, 0, 500);
        Check.due("5 hundredths", 1, y.pressure(0, 1));
        BatchPipe z = Pipes.opened(0, 5, 5, 5, 5, 5, 5);
        for (int segment = 0; segment < 6; segment++) {
            Check.due("each of them rounded up, from " + segment, 6 - segment, z.pressure(segment, 1));
            Check.due("none of them", 0, z.pressure(segment, 0));
        }
    }

    private static void weightIsThatOfTheLastUnits() {
        BatchPipe x = new BatchPipe();
        x.segment(5, 10, 500);
        x.segment(5, 30, 500);
        x.product(1, 3, 3, 1, 0);
        x.open(0);
        x.order(0, 1, 50);
        x.rate(1);
        x.pass(4);
        Check.due("the batch 1 is not at the end of the segment 0 yet", 240 - 80, x.pressure(1, 0));
        x.pass(1);
        Check.due("and now it is", 240 - 30, x.pressure(1, 0));
        x.pass(4);
        Check.due("the batch 0 is at the outlet yet", 240 - 30, x.pressure(1, 0));
        Check.due("from the inlet", 240, x.pressure(0, 0));
        x.pass(1);
        Check.due("the batch 1 is at the outlet", 90 - 30, x.pressure(1, 0));
        Check.due("from the inlet", 90, x.pressure(0, 0));
    }

    private static void pressureIsNoneAtLeast() {
        BatchPipe x = new BatchPipe();
        x.segment(50, 2, 500);
        x.segment(50, 0, 10);
        x.product(0, 1, 2, 0, 0);
        x.open(0);
        // 1 a unit of the rate, less 2.
        int[] due = {0, 0, 0, 1, 2};
        for (int units = 0; units < due.length; units++) {
            Check.due("at the rate " + units, due[units], x.pressure(1, units));
        }
    }

    private static void leakTakesAsManyAsItDoes() {
        for (int units = 1; units <= 10; units++) {
            for (int rate = 1; rate <= 10; rate++) {
                BatchPipe x = Pipes.running(rate, 0, 50, 5, 30);
                x.leak(0, units);
                x.pass(1);
                int leaked = Math.min(units, rate);
                Check.due("leaked, " + units + " of " + rate, leaked, x.batch(0, 4) + x.batch(1, 4));
                Check.due("the others are at the outlet", rate - leaked, x.tank(0, 0));
                x.pass(1);
                Check.due("as many in the next minute", 2 * leaked, x.batch(0, 4) + x.batch(1, 4));
            }
        }
    }

    private static void dropTakesAsManyAsItDoes() {
        for (int units = 1; units <= 10; units++) {
            for (int rate = 1; rate <= 10; rate++) {
                BatchPipe x = Pipes.running(rate, 0, 50, 30, 5);
                x.drop(0, units, 3);
                x.leak(0, 2);
                x.pass(1);
                int leaked = Math.min(2, rate);
                int dropped = Math.min(units, rate - leaked);
                Check.due("the leak comes first", leaked, x.batch(0, 4));
                Check.due("dropped, " + units + " of " + rate, dropped, x.tank(3, 0));
                Check.due("the others are at the outlet", rate - leaked - dropped, x.tank(0, 0));
                x.pass(1);
                Check.due("as many in the next minute", 2 * dropped, x.tank(3, 0));
            }
        }
    }

    /** All units behind the one that goes move on by one, those ahead stay. */
    private static void theyTakeTheLastUnitOfTheirSegment() {
        for (int way = 0; way < 2; way++) {
            BatchPipe x = Pipes.running(1, 1, 1, 5, 5, 5);
            for (int product = 2; product < 10; product++) {
                x.order(0, product % 6, 1);
            }
            x.pass(9);
            Check.due("ahead", "000000123456789", Pipes.units(x));
            x.order(0, 0, 20);
            if (way == 0) {
                x.drop(0, 1, 1);
            } else {
                x.leak(0, 1);
            }
            x.pass(1);
            Check.due("the last one of the segment 0", "00000" + "01234" + "6789" + "10", Pipes.units(x));
            if (way == 0) {
                x.drop(1, 1, 1);
            } else {
                x.leak(1, 1);
            }
            x.pass(1);
            Check.due("the last one of the segment 1", "00000" + "12346" + "789" + "10" + "10", Pipes.units(x));
        }
    }

    private static void fullTankSpills() {
        for (int way = 0; way < 2; way++) {
            BatchPipe x = Pipes.running(1, 0, 200, 5, 5);
            if (way == 1) {
                x.drop(0, 10, 0);
            }
            x.pass(60);
            x.pass(39);
            Check.due("99", 99, x.tank(0, 0));
            Check.due("nothing spilled at 99", 0, x.pipe(3));
            x.pass(1);
            Check.due("100", 100, x.tank(0, 0));
            Check.due("nothing spilled at 100", 0, x.pipe(3));
            x.pass(1);
            Check.due("full", 100, x.tank(0, 0));
            Check.due("one spilled", 1, x.pipe(3));
            Check.due("it counts as gone", 101, x.batch(0, 2 + way) + x.batch(1, 2 + way));
            Check.due("in the balance too", 0, x.pipe(1));
            Check.due("what it had", 100, x.empty(0));
            x.pass(1);
            Check.due("it has room again", 1, x.tank(0, 0));
            Check.due("none more spilled", 1, x.pipe(3));
        }
        BatchPipe y = Pipes.running(10, 0, 200, 5);
        y.pass(9);
        y.rate(7);
        y.pass(2);
        Check.due("full in the middle of a minute", 100, y.tank(0, 0));
        Check.due("four spilled", 4, y.pipe(3));
    }

    private static void dirtIsMoreByOneIfAnyUnitMoved() {
        BatchPipe x = Pipes.running(0, 0, 12, 5, 5);
        x.pass(1);
        Check.due("none moved", 0, x.dirt(0));
        x.rate(1);
        x.pass(1);
        Check.due("one moved", 1, x.dirt(0));
        Check.due("one moved, the other segment", 1, x.dirt(1));
        x.rate(10);
        x.pass(1);
        Check.due("ten moved", 2, x.dirt(1));
        x.pass(1);
        Check.due("one was left", 3, x.dirt(1));
        x.pass(1);
        Check.due("none was left", 3, x.dirt(1));
        x.order(0, 0, 5);
        x.leak(0, 10);
        x.pass(1);
        Check.due("all leaked", 4, x.dirt(0));
        Check.due("all leaked, behind it nothing moved", 4, x.dirt(1));
    }

    private static void dirtIsAtMost200() {
        BatchPipe x = Pipes.running(1, 0, 200, 5, 5);
        x.order(0, 0, 200);
        x.pass(60);
        x.pass(60);
        x.pass(60);
        x.pass(19);
        int[] due = {199, 200, 200, 200};
        for (int dirt : due) {
            Check.due("dirt", dirt, x.dirt(0));
            Check.due("dirt of the last", dirt, x.dirt(1));
            x.pass(1);
        }
    }

    private static void pigIsOutWithItsUnit() {
        BatchPipe x = Pipes.running(1, 1, 50, 5, 6);
        x.launch();
        x.pass(10);
        Check.due("the last of the batch 0 is at the outlet", "01111111111", Pipes.units(x));
        Check.due("in it", 1, x.pipe(4));
        Check.due("dirt", 10, x.dirt(1));
        x.pass(1);
        Check.due("out", 0, x.pipe(4));
        Check.due("no dirt, but of that minute", 1, x.dirt(1));
        x.pass(3);
        x.launch();
        x.rate(10);
        x.pass(1);
        Check.due("ten of eleven", 1, x.pipe(4));
        x.pass(1);
        Check.due("the eleventh", 0, x.pipe(4));
        // A pig that is out in the middle of a minute makes room for the next one behind it.
        Check.fine("launch", () -> x.launch());
        Check.due("in it again", 1, x.pipe(4));
    }

    private static void pigCleansUpToWhereItWent() {
        for (int gone = 0; gone < 6; gone++) {
            BatchPipe x = Pipes.running(5, 0, 200, 5, 5, 5, 5, 5, 5);
            x.pass(2);
            x.launch();
            for (int k = 0; k < gone; k++) {
                x.pass(1);
            }
            Check.due("in it", 1, x.pipe(4));
            if (gone % 2 == 0 && gone < 5) {
                x.drop(gone, 5, 1);
            } else if (gone < 5) {
                x.leak(gone, 5);
            }
            x.pass(1);
            Check.due("out at the segment " + gone, 0, x.pipe(4));
            for (int k = 0; k < 6; k++) {
                Check.due("dirt of " + k + ", out at " + gone, k <= gone ? 1 : 3 + gone, x.dirt(k));
            }
        }
    }

    private static void balanceIsOfTheLatestFive() {
        BatchPipe x = Pipes.running(2, 0, 100, 5, 5);
        x.leak(0, 2);
        Check.due("none", 0, x.pipe(1));
        x.pass(1);
        x.leak(-1, 2);
        for (int minute = 1; minute <= 5; minute++) {
            Check.due("it is among the latest five", 2, x.pipe(1));
            x.pass(1);
        }
        Check.due("it is the sixth", 0, x.pipe(1));
        x.leak(0, 2);
        x.drop(0, 1, 1);
        x.rate(4);
        x.pass(1);
        Check.due("what went by the drop and at the outlet is none of it", 2, x.pipe(1));
        x.pass(4);
        Check.due("five of 2", 10, x.pipe(1));
        x.pass(1);
        Check.due("still five of 2", 10, x.pipe(1));
    }

    private static void alarmIsAtThree() {
        int[] sums = {1, 2, 3, 4, 10};
        for (int sum : sums) {
            BatchPipe x = Pipes.running(10, 0, 50, 30, 5);
            x.leak(0, sum);
            x.pass(1);
            Check.due("the sum", sum, x.pipe(1));
            Check.due("the alarm at " + sum, sum >= 3 ? 1 : 0, x.pipe(2));
            x.leak(-1, 1);
            x.pass(4);
            Check.due("the alarm at " + sum + ", the fifth minute", sum >= 3 ? 1 : 0, x.pipe(2));
            x.pass(1);
            Check.due("no alarm in the sixth", 0, x.pipe(2));
        }
    }

    private static void allThatWaitsIfItIsNotMore() {
        BatchPipe x = Pipes.running(3, 0, 10, 5);
        x.order(1, 0, 20);
        x.order(1, 0, 4);
        x.pass(1);
        // 7 of the batch that has begun, and 24; entered 3 and none: the claims are 4, 1, 1 and 1.
        int[][] due = {{30, 7, 4}, {31, 7, 24}, {32, 7, 24}, {9999, 7, 24}};
        for (int[] row : due) {
            Check.due("of " + row[0], row[1], x.share(0, row[0]));
            Check.due("of " + row[0] + ", another", row[2], x.share(1, row[0]));
            Check.due("of " + row[0] + ", who ordered nothing", 0, x.share(2, row[0]));
        }
    }

    private static void sharesAreRoundedDown() {
        BatchPipe x = Pipes.running(3, 0, 50, 5);
        x.order(1, 0, 50);
        x.pass(1);
        // The claims are 4, 1, 1 and 1.
        int[][] due = {{0, 0, 0}, {1, 0, 0}, {2, 1, 0}, {6, 3, 0}, {7, 4, 1}, {8, 4, 1}, {13, 7, 1}, {14, 8, 2}};
        for (int[] row : due) {
            Check.due("of " + row[0], row[1], x.share(0, row[0]));
            Check.due("of " + row[0] + ", another", row[2], x.share(1, row[0]));
        }
    }

    private static void shareIsNotMoreThanWhatWaits() {
        BatchPipe x = new BatchPipe();
        x.order(0, 0, 5);
        x.order(1, 0, 50);
        // Nothing entered: a quarter each.
        int[][] due = {{19, 4}, {20, 5}, {23, 5}, {24, 5}, {54, 5}};
        for (int[] row : due) {
            Check.due("of " + row[0], row[1], x.share(0, row[0]));
            Check.due("of " + row[0] + ", another", row[0] / 4, x.share(1, row[0]));
        }
    }

    private static void sharesOfTheGreatestNumbers() {
        BatchPipe x = Pipes.opened(0, 5);
        for (int k = 0; k < 39; k++) {
            x.order(k < 37 ? 3 : 2, 0, 200);
        }
        Check.due("7800 wait", 7400, x.share(3, 7800));
        Check.due("a quarter of 7799", 1949, x.share(3, 7799));
        x.rate(10);
        for (int k = 0; k < 12; k++) {
            x.pass(60);
        }
        // 7200 entered, so that 200 and 400 wait; the claims are 7201, 1, 1 and 1.
        Check.due("of 600", 200, x.share(3, 600));
        Check.due("of 599", 200, x.share(3, 599));
        Check.due("of 200", 199, x.share(3, 200));
        Check.due("of 599, another", 0, x.share(2, 599));
        Check.due("of 600, another", 400, x.share(2, 600));
    }
}
