/** Promises 13 to 20: batch, unit, unitAnew, pressure, tank, pipe, dirt, share. */
public final class AskingTest {
    public static void main(String[] args) {
        batchRefuses();
        batchTellsAll();
        mixGrowsTillItsFirstUnitGoes();
        mixStaysWhenTheDropTakesItsFirstUnit();
        mixOfOneProductIsNone();
        unitRefuses();
        unitsStandInTheOrderOfEntering();
        pressureRefuses();
        pressureAddsUp();
        pressureIsRoundedUpForEachSegment();
        pressureIsNoneAtLeast();
        rateGivesWay();
        rateGivesWayInTheMiddle();
        tankRefuses();
        tankHasMixedUnits();
        tankHasTheWorstGrade();
        bothFrontsMakeTheGrade();
        fullTankSpills();
        pipeRefuses();
        pipeTellsTheBalance();
        pipeTellsTheRate();
        dirtGrows();
        shareRefuses();
        shareOfAllThatWaits();
        shareByWhatEntered();
        Check.end();
    }

    private static void batchRefuses() {
        BatchPipe x = new BatchPipe();
        Check.index("no batch 0, closed", () -> x.batch(0, 0));
        Check.index("no batch 1", () -> x.batch(1, 0));
        Check.index("batch -1", () -> x.batch(-1, 0));
        Check.index("batch, least int", () -> x.batch(Integer.MIN_VALUE, 0));
        Check.index("batch, greatest int", () -> x.batch(Integer.MAX_VALUE, 0));
        Check.index("the index first, closed", () -> x.batch(0, 8));
        x.order(0, 3, 7);
        for (int what = 0; what < 8; what++) {
            int due = what == 5 ? 7 : what == 7 ? 3 : 0;
            Check.due("a batch that waits, " + what, due, x.batch(1, what));
        }
        Check.argument("what -1", () -> x.batch(1, -1));
        Check.argument("what 8", () -> x.batch(1, 8));
        Check.index("the index first", () -> x.batch(2, 8));
        Check.index("no batch 0 without the opening", () -> x.batch(0, 0));
    }

    private static void batchTellsAll() {
        BatchPipe x = Pipes.opened(2, 5, 5);
        x.order(1, 4, 30);
        x.rate(8);
        x.drop(0, 2, 1);
        x.leak(0, 1);
        x.pass(2);
        // Of the 16: one leaked and two dropped at 5, and 5 at the outlet, each minute.
        int[] dueOf0 = {0, 10, 7, 2, 1, 0, 0, 2};
        // Ahead of the first one that goes at the outlet 13 entered.
        int[] dueOf1 = {10, 16, 3, 2, 1, 14, 3, 4};
        for (int what = 0; what < 8; what++) {
            Check.due("batch 0, " + what, dueOf0[what], x.batch(0, what));
            Check.due("batch 1, " + what, dueOf1[what], x.batch(1, what));
        }
    }

    private static void mixGrowsTillItsFirstUnitGoes() {
        BatchPipe x = Pipes.opened(0, 24);
        x.order(0, 1, 3);
        x.order(0, 2, 200);
        x.rate(1);
        Check.due("none till it entered", 0, x.batch(1, 6));
        int[] roots = {0, 1, 1, 1, 2, 2, 2, 2, 2, 3, 3, 3, 3, 3, 3, 3, 4, 4, 4, 4, 4, 4, 4, 4, 4};
        for (int minute = 1; minute <= 24; minute++) {
            x.pass(1);
            Check.due("all that entered since, of whatever batch", roots[minute], x.batch(1, 6));
            Check.due("the second front", roots[Math.max(0, minute - 3)], x.batch(2, 6));
            Check.due("the batch 0 has none", 0, x.batch(0, 6));
        }
        x.pass(1);
        // 25 entered, and its first unit went: 24 were there ahead of that.
        Check.due("as it was ahead", 4, x.batch(1, 6));
        x.pass(30);
        Check.due("it stays", 4, x.batch(1, 6));
        Check.due("the second stays too", 4, x.batch(2, 6));
    }

    private static void mixStaysWhenTheDropTakesItsFirstUnit() {
        BatchPipe x = Pipes.opened(0, 9, 50);
        x.order(0, 1, 200);
        x.rate(1);
        x.pass(9);
        x.drop(0, 1, 1);
        Check.due("nine", 3, x.batch(1, 6));
        x.pass(1);
        Check.due("its first unit dropped", 1, x.batch(1, 3));
        x.drop(-1, 1, 1);
        x.pass(20);
        Check.due("dropped: it stays", 3, x.batch(1, 6));
        BatchPipe y = Pipes.opened(0, 9, 50);
        y.order(0, 1, 200);
        y.rate(1);
        y.pass(9);
        y.leak(0, 1);
        y.pass(10);
        Check.due("leaked: it stays", 3, y.batch(1, 6));
    }

    private static void mixOfOneProductIsNone() {
        BatchPipe x = Pipes.opened(3, 5);
        x.product(0, 8, 3, 3, 0);
        x.order(0, 3, 20);
        x.order(0, 0, 20);
        x.order(0, 3, 20);
        x.rate(2);
        x.pass(30);
        Check.due("one product", 0, x.batch(1, 6));
        Check.due("another product, though of one grade", 2, x.batch(2, 6));
        Check.due("the first product again", 2, x.batch(3, 6));
        // Each front between two products takes one from each side.
        Check.due("mixed", 4, x.tank(0, 2));
        Check.due("grade", 3, x.tank(0, 1));
    }

    private static void unitRefuses() {
        BatchPipe x = new BatchPipe();
        Check.index("unit(-1), closed", () -> x.unit(-1));
        Check.index("unitAnew(-1), closed", () -> x.unitAnew(-1));
        x.segment(5, 0, 500);
        Check.due("unit(0), closed", -1, x.unit(0));
        Check.due("unitAnew(0), closed", -1, x.unitAnew(0));
        x.open(0);
        Check.index("unit(-1)", () -> x.unit(-1));
        Check.index("unitAnew(-1)", () -> x.unitAnew(-1));
        Check.index("unit, least int", () -> x.unit(Integer.MIN_VALUE));
        Check.index("unitAnew, least int", () -> x.unitAnew(Integer.MIN_VALUE));
        Check.due("unit(4)", 0, x.unit(4));
        Check.due("unit(5)", -1, x.unit(5));
        Check.due("unitAnew(4)", 0, x.unitAnew(4));
        Check.due("unitAnew(5)", -1, x.unitAnew(5));
        Check.due("unit, greatest int", -1, x.unit(Integer.MAX_VALUE));
        Check.due("unitAnew, greatest int", -1, x.unitAnew(Integer.MAX_VALUE));
    }

    private static void unitsStandInTheOrderOfEntering() {
        BatchPipe x = new BatchPipe();
        x.segment(5, 0, 500);
        x.segment(5, 0, 500);
        x.product(0, 8, 3, 0, 2);
        x.open(0);
        x.order(0, 1, 4);
        x.order(0, 2, 3);
        x.rate(1);
        x.pass(5);
        // The batch 1 waits till the batch 2 is at the inlet.
        int[] due = {0, 0, 0, 0, 0, 2, 2, 2, 1, 1};
        for (int k = 0; k < 10; k++) {
            Check.due("unit " + k, due[k], x.unit(k));
            Check.due("unitAnew " + k, due[k], x.unitAnew(k));
        }
        x.drop(0, 1, 0);
        x.pass(1);
        int[] behind = {0, 0, 0, 0, 0, 2, 2, 1, 1, 1};
        for (int k = 0; k < 10; k++) {
            Check.due("behind a drop, unit " + k, behind[k], x.unit(k));
            Check.due("behind a drop, unitAnew " + k, behind[k], x.unitAnew(k));
        }
    }

    private static void pressureRefuses() {
        BatchPipe x = new BatchPipe();
        Check.index("no segments", () -> x.pressure(0, 0));
        x.segment(5, 0, 500);
        Check.index("segment -1", () -> x.pressure(-1, 0));
        Check.index("segment 1", () -> x.pressure(1, 0));
        Check.index("the index first", () -> x.pressure(1, 11));
        Check.argument("units -1, closed", () -> x.pressure(0, -1));
        Check.argument("units 11, closed", () -> x.pressure(0, 11));
        Check.state("closed", () -> x.pressure(0, 0));
        x.open(0);
        Check.index("segment 1, open", () -> x.pressure(1, 0));
        Check.index("segment, least int", () -> x.pressure(Integer.MIN_VALUE, 0));
        Check.argument("units 11", () -> x.pressure(0, 11));
        Check.due("units 0", 0, x.pressure(0, 0));
        Check.due("units 10", 2, x.pressure(0, 10));
    }

    private static void pressureAddsUp() {
        BatchPipe x = new BatchPipe();
        x.segment(10, 20, 500);
        x.segment(20, 30, 500);
        x.segment(30, 50, 500);
        x.product(1, 7, 4, 1, 0);
        x.product(2, 3, 10, 2, 0);
        x.open(1);
        // At the rate 10: 400, 800 and 1200 hundredths; 7 times 50 at the outlet.
        Check.due("from the inlet", 4 + 8 + 12 + 350, x.pressure(0, 10));
        Check.due("from the second on", 8 + 12 + 350 - 140, x.pressure(1, 10));
        Check.due("from the last on", 12 + 350 - 210, x.pressure(2, 10));
        Check.due("at rest", 350, x.pressure(0, 0));
        x.order(0, 2, 200);
        x.rate(10);
        x.pass(1);
        // The first segment is full of the product 2, and all have a dirt of 1.
        Check.due("the inlet, ten of the product 2", 11 + 9 + 13 + 350, x.pressure(0, 10));
        Check.due("the last unit ahead is of the product 2", 9 + 13 + 350 - 60, x.pressure(1, 10));
        Check.due("the last unit ahead is of the product 1", 13 + 350 - 210, x.pressure(2, 10));
        x.pass(4);
        x.rate(9);
        x.pass(1);
        Check.due("the last one of the product 1 at the outlet", 11 + 21 + 30 + 350, x.pressure(0, 10));
        x.rate(1);
        x.pass(1);
        Check.due("all of the product 2", 11 + 21 + 31 + 150, x.pressure(0, 10));
        Check.due("all of it, from the second on", 21 + 31 + 150 - 60, x.pressure(1, 10));
        Check.due("all of it, from the last on", 31 + 150 - 90, x.pressure(2, 10));
    }

    private static void pressureIsRoundedUpForEachSegment() {
        BatchPipe x = Pipes.opened(0, 5, 5, 5);
        for (int units = 1; units <= 6; units++) {
            Check.due("fifteen each, up to 90 hundredths", 3, x.pressure(0, units));
        }
        Check.due("105 hundredths", 6, x.pressure(0, 7));
        Check.due("of the last two", 4, x.pressure(1, 7));
        x.product(0, 8, 10, 0, 0);
        Check.due("exactly 100 hundredths", 3, x.pressure(0, 2));
        Check.due("150 hundredths", 6, x.pressure(0, 3));
        BatchPipe y = Pipes.opened(0, 10);
        y.product(0, 8, 10, 0, 0);
        y.order(0, 0, 1);
        y.rate(1);
        y.pass(1);
        Check.due("101 hundredths, the dirt with them", 2, y.pressure(0, 1));
    }

    private static void pressureIsNoneAtLeast() {
        BatchPipe x = new BatchPipe();
        x.segment(5, 50, 500);
        x.segment(5, 0, 10);
        x.open(0);
        Check.due("downhill", 0, x.pressure(1, 10));
        Check.due("from the inlet nothing goes", 4, x.pressure(0, 10));
        x.order(0, 0, 10);
        x.rate(10);
        Check.due("none is above its limit", 10, x.pass(1));
    }

    private static void rateGivesWay() {
        BatchPipe x = new BatchPipe();
        x.segment(50, 0, 10);
        x.product(0, 1, 4, 0, 0);
        x.open(0);
        x.order(0, 0, 200);
        x.rate(7);
        // 200 hundredths a unit of the rate: 10 at the rate 5, the very limit.
        Check.due("at the limit", 5, x.pass(1));
        Check.due("pipe(0)", 5, x.pipe(0));
        x.rate(4);
        Check.due("below the limit", 4, x.pass(1));
        x.rate(5);
        // The dirt is 2: 1010 hundredths at the rate 5, which is 11.
        Check.due("dirt", 4, x.pass(1));
        x.product(0, 1, 1, 0, 0);
        x.rate(10);
        Check.due("thinner", 10, x.pass(1));
        x.product(0, 1, 10, 0, 0);
        x.pass(1);
        Check.due("503 hundredths", 1, x.pipe(0));
        BatchPipe y = new BatchPipe();
        y.segment(5, 50, 10);
        y.open(0);
        y.order(0, 0, 200);
        y.rate(10);
        Check.due("above the limit even at rest", 0, y.pass(2));
        Check.due("no rate", 0, y.pipe(0));
        Check.due("the minute goes on", 2, y.pipe(5));
        Check.due("no dirt", 0, y.dirt(0));
    }

    private static void rateGivesWayInTheMiddle() {
        BatchPipe x = new BatchPipe();
        x.segment(50, 0, 500);
        x.segment(50, 0, 10);
        x.segment(50, 0, 500);
        x.open(0);
        x.order(0, 0, 200);
        x.rate(10);
        // 150 hundredths a segment and a unit: twice 5 at the rate 3, twice 6 at the rate 4.
        Check.due("the second segment gives way", 3, x.pass(1));
        BatchPipe y = new BatchPipe();
        y.segment(50, 0, 10);
        y.segment(50, 0, 500);
        y.open(0);
        y.order(0, 0, 200);
        y.rate(10);
        Check.due("the first segment gives way", 3, y.pass(1));
        BatchPipe z = new BatchPipe();
        z.segment(50, 0, 500);
        z.segment(50, 0, 10);
        z.open(0);
        z.order(0, 0, 200);
        z.rate(10);
        Check.due("the last segment gives way", 6, z.pass(1));
    }

    private static void tankRefuses() {
        BatchPipe x = new BatchPipe();
        Check.index("tank -1", () -> x.tank(-1, 0));
        Check.index("tank 4", () -> x.tank(4, 0));
        Check.index("the index first", () -> x.tank(4, 3));
        Check.argument("what -1", () -> x.tank(0, -1));
        Check.argument("what 3", () -> x.tank(3, 3));
        Check.due("what 2", 0, x.tank(3, 2));
    }

    private static void tankHasMixedUnits() {
        BatchPipe x = Pipes.opened(0, 20);
        x.order(0, 3, 100);
        x.rate(1);
        // In the minute m goes the unit m - 1 of the batch 0, behind which are 20 - m of it, and the
        // mix is the root of m - 1: from 9 to 24 its half is 2.
        x.pass(18);
        Check.due("none mixed", 0, x.tank(0, 2));
        Check.due("its own grade", 0, x.tank(0, 1));
        x.pass(1);
        Check.due("the last but one", 1, x.tank(0, 2));
        Check.due("the grade on the other side", 3, x.tank(0, 1));
        x.pass(1);
        Check.due("the last one", 2, x.tank(0, 2));
        x.pass(1);
        Check.due("the first one of the batch 1", 3, x.tank(0, 2));
        x.pass(1);
        Check.due("the second one", 4, x.tank(0, 2));
        x.pass(10);
        Check.due("no more", 4, x.tank(0, 2));
        Check.due("units", 32, x.tank(0, 0));
        BatchPipe y = Pipes.opened(0, 30, 30);
        y.order(0, 3, 200);
        y.rate(1);
        y.drop(0, 1, 2);
        y.leak(0, 1);
        y.rate(2);
        y.pass(15);
        // The leak takes every other one, ahead of the drop: of the last three that are mixed, the
        // mix being 5 and its half 3, the drop has two.
        Check.due("mixed at the drop", 2, y.tank(2, 2));
        Check.due("grade at the drop", 3, y.tank(2, 1));
        Check.due("none came at the outlet", -1, y.tank(0, 1));
        y.pass(2);
        // The leak takes the places 0 and 2, the drop the places 1 and 3.
        Check.due("mixed of the batch 1", 3, y.tank(2, 2));
    }

    private static void tankHasTheWorstGrade() {
        BatchPipe x = Pipes.opened(5, 5);
        x.order(0, 1, 100);
        x.rate(1);
        x.pass(1);
        Check.due("the worst one first", 5, x.tank(0, 1));
        x.pass(8);
        Check.due("it never goes up", 5, x.tank(0, 1));
        x.empty(0);
        x.pass(1);
        Check.due("emptied", 1, x.tank(0, 1));
        x.receive(1);
        x.pass(1);
        Check.due("another tank", 1, x.tank(1, 1));
        BatchPipe y = Pipes.opened(5, 5);
        y.order(0, 1, 100);
        y.rate(1);
        y.pass(5);
        y.empty(0);
        y.pass(1);
        Check.due("the first one of the batch 1 is mixed with the batch 0", 5, y.tank(0, 1));
        y.empty(0);
        y.pass(1);
        Check.due("the second one is not", 1, y.tank(0, 1));
    }

    private static void bothFrontsMakeTheGrade() {
        // A batch of one unit between two: it is mixed on both sides.
        Check.due("the one ahead is the worst", 7, gradeBetween(7, 2));
        Check.due("the one behind is the worst", 7, gradeBetween(2, 7));
        Check.due("its own is the worst", 4, gradeBetween(1, 2));
    }

    private static int gradeBetween(int ahead, int behind) {
        BatchPipe x = new BatchPipe();
        x.segment(9, 0, 500);
        x.product(0, 8, 3, ahead, 0);
        x.product(1, 8, 3, 4, 0);
        x.product(2, 8, 3, behind, 0);
        x.open(0);
        x.order(0, 1, 1);
        x.order(0, 2, 100);
        x.rate(1);
        x.pass(9);
        x.empty(0);
        x.pass(1);
        Check.due("it is the one between", 1, x.batch(1, 2));
        Check.due("it is mixed once", 1, x.tank(0, 2));
        return x.tank(0, 1);
    }

    private static void fullTankSpills() {
        BatchPipe x = Pipes.opened(0, 60, 50);
        x.order(0, 5, 200);
        x.rate(10);
        x.pass(10);
        Check.due("just full", 100, x.tank(0, 0));
        Check.due("nothing spilled", 0, x.pipe(3));
        Check.due("its grade", 0, x.tank(0, 1));
        Check.due("none mixed", 0, x.tank(0, 2));
        x.pass(1);
        Check.due("still full", 100, x.tank(0, 0));
        Check.due("spilled", 10, x.pipe(3));
        Check.due("gone at the outlet all the same", 110, x.batch(0, 2));
        Check.due("in the balance too", 0, x.pipe(1));
        // The last units of the batch 0 were mixed, but the tank does not have them.
        Check.due("what is spilled is not in the grade", 0, x.tank(0, 1));
        Check.due("what is spilled is not among the mixed ones", 0, x.tank(0, 2));
        x.drop(0, 4, 0);
        x.pass(1);
        Check.due("the drop spills too", 20, x.pipe(3));
        Check.due("dropped all the same", 4, x.batch(1, 3));
        x.receive(1);
        x.drop(-1, 1, 0);
        x.pass(1);
        Check.due("another tank has room", 10, x.tank(1, 0));
        Check.due("nothing more is spilled", 20, x.pipe(3));
    }

    private static void pipeRefuses() {
        BatchPipe x = new BatchPipe();
        Check.argument("what -1", () -> x.pipe(-1));
        Check.argument("what 6", () -> x.pipe(6));
        Check.argument("what, least int", () -> x.pipe(Integer.MIN_VALUE));
        Check.due("what 5", 0, x.pipe(5));
    }

    private static void pipeTellsTheBalance() {
        BatchPipe x = Pipes.opened(0, 5, 5, 5);
        x.order(0, 0, 200);
        x.rate(4);
        x.drop(1, 1, 1);
        x.leak(0, 1);
        x.pass(1);
        Check.due("balance 1", 1, x.pipe(1));
        Check.due("no alarm at 1", 0, x.pipe(2));
        x.pass(1);
        Check.due("balance 2", 2, x.pipe(1));
        Check.due("no alarm at 2", 0, x.pipe(2));
        x.pass(1);
        Check.due("balance 3", 3, x.pipe(1));
        Check.due("an alarm at 3", 1, x.pipe(2));
        x.pass(5);
        Check.due("the latest five", 5, x.pipe(1));
        x.leak(-1, 1);
        int[] due = {4, 3, 2, 1, 0};
        for (int sum : due) {
            x.pass(1);
            Check.due("one goes out of it", sum, x.pipe(1));
            Check.due("the alarm ends", sum >= 3 ? 1 : 0, x.pipe(2));
        }
        x.leak(0, 10);
        x.pass(1);
        Check.due("no more than entered", 4, x.pipe(1));
        x.rate(0);
        x.pass(4);
        Check.due("minutes at rest count", 4, x.pipe(1));
        x.pass(1);
        Check.due("and push it out", 0, x.pipe(1));
    }

    private static void pipeTellsTheRate() {
        BatchPipe x = Pipes.opened(0, 5);
        x.rate(6);
        Check.due("no minute yet", 0, x.pipe(0));
        x.pass(1);
        Check.due("found, though no units came", 6, x.pipe(0));
        x.rate(2);
        Check.due("that of the latest minute", 6, x.pipe(0));
        x.order(0, 0, 3);
        x.pass(2);
        Check.due("found, though fewer came", 2, x.pipe(0));
    }

    private static void dirtGrows() {
        BatchPipe x = Pipes.opened(0, 5, 5);
        Check.index("dirt(-1)", () -> x.dirt(-1));
        Check.index("dirt(2)", () -> x.dirt(2));
        Check.due("at first", 0, x.dirt(1));
        x.pass(3);
        Check.due("nothing told, nothing moved", 0, x.dirt(0));
        x.order(0, 0, 200);
        x.order(0, 0, 200);
        x.rate(1);
        x.leak(0, 1);
        x.pass(2);
        Check.due("the first", 2, x.dirt(0));
        Check.due("all, even those ahead of a leak", 2, x.dirt(1));
        x.rate(0);
        x.pass(1);
        Check.due("nothing moved", 2, x.dirt(0));
        x.rate(1);
        for (int k = 0; k < 3; k++) {
            x.pass(60);
        }
        x.pass(17);
        Check.due("199", 199, x.dirt(0));
        x.pass(1);
        Check.due("200", 200, x.dirt(0));
        x.pass(5);
        Check.due("200 at most", 200, x.dirt(0));
        Check.due("200 at most, of all", 200, x.dirt(1));
    }

    private static void shareRefuses() {
        BatchPipe x = new BatchPipe();
        Check.index("shipper -1", () -> x.share(-1, 0));
        Check.index("shipper 4", () -> x.share(4, 0));
        Check.index("the index first", () -> x.share(4, -1));
        Check.argument("units -1", () -> x.share(0, -1));
        Check.argument("units 10000", () -> x.share(0, 10000));
        Check.due("units 9999", 0, x.share(3, 9999));
    }

    private static void shareOfAllThatWaits() {
        BatchPipe x = new BatchPipe();
        x.order(0, 0, 10);
        x.order(1, 0, 20);
        x.order(0, 0, 5);
        Check.due("all of it, exactly", 15, x.share(0, 35));
        Check.due("all of it, another", 20, x.share(1, 35));
        Check.due("all of it, none", 0, x.share(2, 35));
        // Nothing entered: the claims are 1 each, of 4.
        Check.due("34 by four", 8, x.share(0, 34));
        Check.due("34 by four, another", 8, x.share(1, 34));
        Check.due("34 by four, none waits", 0, x.share(3, 34));
        Check.due("none to share", 0, x.share(0, 0));
        Check.due("rounded down", 0, x.share(0, 3));
    }

    private static void shareByWhatEntered() {
        BatchPipe x = Pipes.opened(0, 5);
        x.order(0, 0, 10);
        x.order(1, 1, 4);
        x.order(2, 0, 100);
        x.order(1, 0, 3);
        x.rate(1);
        x.pass(16);
        // Entered 10, 4 and 2, the batch 0 is of no shipper: claims 11, 5, 3 and 1; 98 and 3 wait.
        Check.due("what waits is not more", 98, x.share(2, 101));
        Check.due("what waits is not more, another", 3, x.share(1, 101));
        Check.due("100 times 3 by 20", 15, x.share(2, 100));
        Check.due("100 times 5 by 20, but 3 wait", 3, x.share(1, 100));
        Check.due("none waits", 0, x.share(0, 100));
        Check.due("13 times 3 by 20", 1, x.share(2, 13));
        Check.due("of one who ordered nothing", 0, x.share(3, 100));
        x.order(3, 0, 7);
        Check.due("100 times 1 by 20", 5, x.share(3, 100));
    }
}
