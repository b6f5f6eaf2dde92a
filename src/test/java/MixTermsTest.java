/**
 * The sentences of "Mixes and tanks" that name an edge, one method each, in the document's order: on the edge,
 * just inside of it and just outside.
 */
public final class MixTermsTest {
    public static void main(String[] args) {
        batchNoneHasNoFront();
        mixIsTheWholeRoot();
        mixIsTheWholeRootOfThousands();
        mixIsNoneTillItEntered();
        mixStaysAsItWasAheadOfTheUnitThatEnters();
        mixIsNoneWithinOneProduct();
        frontIsWithTheOneThatEnteredAhead();
        fewerAheadThanHalfTheMix();
        fewerBehindThanHalfTheMix();
        lastFiveOfALongPipe();
        mixIsThatAheadOfTheUnitThatEnters();
        thoseThatEnteredAreCountedNotThoseInThePipe();
        unitsOfTheDropAreMixedToo();
        gradeIsTheWorstForEachReason();
        gradeOfAUnitThatIsNotMixedIsItsOwn();
        gradesAreThoseOfNow();
        tanksAreFourWithRoomFor100();
        tankHasTheWorstSinceItWasEmpty();
        spilledUnitsAreLost();
        Check.end();
    }

    private static void batchNoneHasNoFront() {
        BatchPipe x = Pipes.running(1, 1, 50, 9);
        Check.due("ahead of all", 0, x.batch(0, 6));
        x.pass(9);
        Check.due("the next one has one", 3, x.batch(1, 6));
        Check.due("the batch 0 has none", 0, x.batch(0, 6));
        x.pass(1);
        Check.due("nor when all of it went", 0, x.batch(0, 6));
        BatchPipe y = Pipes.running(1, 0, 1, 9);
        y.product(0, 8, 3, 4, 0);
        y.pass(1);
        Check.due("its first unit is not mixed", 0, y.tank(0, 2));
    }

    /** Around each square; the greatest is 18, for 360 units are in the longest pipe. */
    private static void mixIsTheWholeRoot() {
        BatchPipe x = new BatchPipe();
        for (int k = 0; k < 6; k++) {
            x.segment(60, 0, 500);
        }
        x.product(1, 8, 3, 1, 0);
        x.open(0);
        x.order(0, 1, 200);
        x.order(0, 0, 160);
        x.order(0, 2, 1);
        x.rate(1);
        x.pass(1);
        Check.due("its first one with them", 1, x.batch(1, 6));
        int entered = 1;
        for (int root = 2; root <= 18; root++) {
            entered += x.pass(root * root - 1 - entered);
            Check.due("one below the square of " + root, root - 1, x.batch(1, 6));
            entered += x.pass(1);
            Check.due("the square of " + root, root, x.batch(1, 6));
            entered += x.pass(1);
            Check.due("one above the square of " + root, root, x.batch(1, 6));
        }
        Check.due("of whatever batch", 11, x.batch(2, 6));
        x.pass(35);
        Check.due("360", 18, x.batch(1, 6));
        Check.due("its first unit is at the outlet", 1, x.unit(0));
        x.pass(1);
        Check.due("and went", 18, x.batch(1, 6));
    }

    /** Where the drop takes all that comes, a front ahead of it stays, and its mix grows. */
    private static void mixIsTheWholeRootOfThousands() {
        BatchPipe x = Pipes.opened(0, 5, 5);
        for (int k = 1; k <= 39; k++) {
            x.order(0, k == 1 ? 1 : 0, 200);
        }
        x.rate(6);
        x.pass(1);
        x.drop(0, 10, 3);
        x.rate(10);
        for (int k = 0; k < 12; k++) {
            x.pass(60);
        }
        x.pass(53);
        Check.due("its first unit is in the pipe", 1, x.unit(4));
        Check.due("7736 entered", 87, x.batch(1, 6));
        x.rate(7);
        x.pass(1);
        Check.due("7743 entered", 87, x.batch(1, 6));
        x.rate(1);
        x.pass(1);
        Check.due("7744 entered", 88, x.batch(1, 6));
        x.pass(56);
        Check.due("7800 entered", 88, x.batch(1, 6));
    }

    private static void mixIsNoneTillItEntered() {
        BatchPipe x = Pipes.running(1, 1, 3, 5);
        x.order(0, 2, 3);
        Check.due("it waits", 0, x.batch(1, 6));
        x.pass(3);
        Check.due("the one behind it waits yet", 0, x.batch(2, 6));
        x.pass(1);
        Check.due("and entered", 1, x.batch(2, 6));
    }

    private static void mixStaysAsItWasAheadOfTheUnitThatEnters() {
        int[][] edges = {{8, 2}, {9, 3}, {15, 3}, {16, 4}, {24, 4}, {25, 5}, {48, 6}, {49, 7}};
        for (int[] edge : edges) {
            // Its first unit goes when as many entered as are in the pipe.
            BatchPipe x = Pipes.running(1, 1, 200, edge[0]);
            x.pass(edge[0]);
            Check.due("at the outlet, of " + edge[0], edge[1], x.batch(1, 6));
            x.pass(1);
            Check.due("it goes, of " + edge[0], edge[1], x.batch(1, 6));
            x.pass(40);
            Check.due("it stays, of " + edge[0], edge[1], x.batch(1, 6));
        }
        for (int way = 0; way < 3; way++) {
            BatchPipe x = Pipes.running(1, 1, 200, 15, 5);
            x.pass(15);
            if (way == 1) {
                x.drop(0, 1, 1);
            } else if (way == 2) {
                x.leak(0, 1);
            }
            x.pass(1);
            // 16 entered: its first unit is in the pipe yet, or was the one that went, at 15.
            Check.due("in whatever way, " + way, way == 0 ? 4 : 3, x.batch(1, 6));
        }
    }

    private static void mixIsNoneWithinOneProduct() {
        BatchPipe x = Pipes.running(1, 0, 9, 9);
        x.order(0, 1, 9);
        x.product(1, 8, 3, 0, 0);
        x.pass(9);
        Check.due("of one product", 0, x.batch(1, 6));
        x.pass(9);
        Check.due("of two, though of one grade", 3, x.batch(2, 6));
        Check.due("none was mixed on the front of one product, nor ahead of it", 1, x.tank(0, 2));
        BatchPipe y = Pipes.running(1, 0, 200, 9);
        y.pass(30);
        Check.due("no front, none mixed", 0, y.tank(0, 2));
    }

    private static void frontIsWithTheOneThatEnteredAhead() {
        // The batch 2 overtakes the batch 1, which the product 0 does not bear.
        BatchPipe x = new BatchPipe();
        x.product(0, 8, 3, 0, 1 << 1);
        x.segment(9, 0, 500);
        x.open(0);
        x.order(0, 1, 50);
        x.order(0, 3, 9);
        x.rate(1);
        x.pass(18);
        Check.due("the batch 2 entered ahead", 3, x.batch(2, 6));
        Check.due("the batch 1 behind it", 3, x.batch(1, 6));
        x.empty(0);
        x.product(3, 8, 3, 7, 0);
        x.pass(1);
        Check.due("the first unit of the batch 1", 1, x.batch(1, 2));
        Check.due("its front is with the batch 2", 7, x.tank(0, 1));
    }

    /** The first unit goes at the mix that stays: so many of the first ones are mixed as are half of it. */
    private static void fewerAheadThanHalfTheMix() {
        int[][] edges = {{5, 1}, {8, 1}, {9, 2}, {15, 2}, {16, 2}, {24, 2}, {25, 3}, {35, 3}, {36, 3}, {48, 3}, {49, 4}};
        for (int[] edge : edges) {
            BatchPipe x = Pipes.running(1, 1, 200, edge[0]);
            x.pass(edge[0]);
            for (int place = 0; place < 8; place++) {
                x.empty(0);
                x.pass(1);
                Check.due("place " + place + " of " + edge[0], place < edge[1] ? 1 : 0, x.tank(0, 2));
            }
        }
    }

    /** The unit with so many behind it goes when as many entered as are in the pipe, less those and 1. */
    private static void fewerBehindThanHalfTheMix() {
        // Of 9 + b + 1 units, that with b behind it goes at the mix 3, whose half is 2; the one ahead at 8.
        Check.due("none behind, mix 3", 1, mixedOfTheBatchNone(10, 9));
        Check.due("one behind, mix 2", 0, mixedOfTheBatchNone(10, 8));
        Check.due("one behind, mix 3", 1, mixedOfTheBatchNone(11, 9));
        Check.due("two behind, mix 3", 0, mixedOfTheBatchNone(12, 9));
        Check.due("one behind, mix 4", 1, mixedOfTheBatchNone(18, 16));
        Check.due("two behind, mix 4", 0, mixedOfTheBatchNone(19, 16));
        Check.due("two behind, mix 5", 1, mixedOfTheBatchNone(28, 25));
        Check.due("two behind, mix 4, just ahead of 5", 0, mixedOfTheBatchNone(27, 24));
        Check.due("three behind, mix 5", 0, mixedOfTheBatchNone(29, 25));
        Check.due("three behind, mix 7", 1, mixedOfTheBatchNone(53, 49));
        Check.due("four behind, mix 7", 0, mixedOfTheBatchNone(54, 49));
    }

    private static int mixedOfTheBatchNone(int holds, int entered) {
        BatchPipe x = Pipes.running(1, 1, 200, holds);
        x.pass(entered);
        x.empty(0);
        x.pass(1);
        Check.due("it is of the batch 0", entered + 1, x.batch(0, 2));
        return x.tank(0, 2);
    }

    /** The unit with four behind it was the last one of the segment 0 when the pipe was opened. */
    private static void lastFiveOfALongPipe() {
        BatchPipe x = Pipes.running(1, 1, 200, 5, 60, 21);
        x.pass(60);
        x.pass(21);
        Check.due("five behind, mix 8", 0, x.tank(0, 2));
        for (int k = 1; k <= 5; k++) {
            x.pass(1);
            Check.due("mix 9, whose half is 5", k, x.tank(0, 2));
        }
        Check.due("all of the batch 0 left", 86, x.batch(0, 2));
    }

    private static void mixIsThatAheadOfTheUnitThatEnters() {
        // The last but one goes at 8 entered, and the ninth enters for it: at the mix 3 it would be mixed.
        BatchPipe x = Pipes.running(1, 1, 200, 10);
        x.pass(9);
        Check.due("the mix behind that", 3, x.batch(1, 6));
        Check.due("it was not mixed", 0, x.tank(0, 2));
        x.pass(1);
        Check.due("the last one was", 1, x.tank(0, 2));
        // Many in one minute are taken one by one.
        BatchPipe y = Pipes.running(10, 1, 200, 10);
        y.pass(1);
        Check.due("ten in a minute", 1, y.tank(0, 2));
        y.pass(1);
        Check.due("ten more", 3, y.tank(0, 2));
    }

    private static void thoseThatEnteredAreCountedNotThoseInThePipe() {
        // The leak takes the latter half of the batch 0: the last one that is left has five behind it.
        BatchPipe x = Pipes.running(5, 1, 200, 5, 5);
        x.leak(0, 5);
        x.pass(1);
        x.leak(-1, 1);
        x.pass(1);
        Check.due("all that was left of the batch 0 left", 5, x.batch(0, 2));
        Check.due("none of them was mixed", 0, x.tank(0, 2));
        x.pass(1);
        Check.due("the first two of the batch 1 are, at the mix 3", 2, x.tank(0, 2));
        // The leak takes the first two of the batch 1: the third one has two ahead of it.
        BatchPipe y = Pipes.running(1, 1, 200, 10, 5);
        y.pass(10);
        y.leak(0, 1);
        y.pass(2);
        y.leak(-1, 1);
        Check.due("two of the batch 1 leaked", 2, y.batch(1, 4));
        Check.due("nothing left since", 10, y.tank(0, 0));
        y.empty(0);
        y.pass(5);
        Check.due("the last ones of the batch 0 left", 15, y.batch(0, 2));
        Check.due("at the mix 3 and at the mix 3", 2, y.tank(0, 2));
        y.empty(0);
        y.pass(1);
        Check.due("the third one of the batch 1 left", 1, y.batch(1, 2));
        Check.due("and was not mixed", 0, y.tank(0, 2));
    }

    private static void unitsOfTheDropAreMixedToo() {
        BatchPipe x = Pipes.running(1, 3, 200, 10, 5);
        x.drop(0, 1, 2);
        x.pass(9);
        Check.due("the last but one at the mix 2", 0, x.tank(2, 2));
        Check.due("not mixed", 0, x.tank(2, 1));
        x.pass(1);
        Check.due("the last one at the mix 3", 1, x.tank(2, 2));
        Check.due("the grade on the other side", 3, x.tank(2, 1));
        x.pass(1);
        Check.due("the first one", 2, x.tank(2, 2));
        x.pass(1);
        Check.due("the second one", 3, x.tank(2, 2));
        x.pass(1);
        Check.due("not the third one", 3, x.tank(2, 2));
        Check.due("what came", 13, x.tank(2, 0));
        Check.due("none at the outlet", 0, x.tank(0, 0));
    }

    /** A batch of three at mixes of 4: the middle one is mixed on both sides, the others on one or on both. */
    private static void gradeIsTheWorstForEachReason() {
        int[][] grades = {{0, 0, 0}, {5, 1, 3}, {3, 1, 5}, {1, 5, 3}, {9, 9, 0}, {0, 9, 9}, {2, 2, 2}, {0, 8, 9}};
        for (int[] grade : grades) {
            BatchPipe x = new BatchPipe();
            for (int p = 0; p < 3; p++) {
                x.product(p, 8, 3, grade[p], 0);
            }
            x.segment(16, 0, 500);
            x.open(0);
            x.order(0, 1, 3);
            x.order(0, 2, 50);
            x.rate(1);
            x.pass(16);
            // The front of the batch 1 is at 4, and that of the batch 2 at 3 and, from 16 on, at 4.
            int ownAndAhead = Math.max(grade[1], grade[0]);
            int ownAndBehind = Math.max(grade[1], grade[2]);
            Check.due("the first of three", ownAndAhead, gradeOfNext(x));
            Check.due("the second of three", Math.max(ownAndAhead, ownAndBehind), gradeOfNext(x));
            Check.due("the third of three", ownAndBehind, gradeOfNext(x));
            Check.due("the first of the next", ownAndBehind, gradeOfNext(x));
        }
    }

    private static int gradeOfNext(BatchPipe x) {
        x.empty(0);
        x.pass(1);
        Check.due("it is mixed, once", 1, x.tank(0, 2));
        return x.tank(0, 1);
    }

    private static void gradeOfAUnitThatIsNotMixedIsItsOwn() {
        BatchPipe x = Pipes.running(1, 5, 200, 10);
        x.pass(9);
        Check.due("the last but one of the batch 0", 0, x.tank(0, 1));
        x.pass(1);
        Check.due("the last one", 5, x.tank(0, 1));
        BatchPipe y = Pipes.opened(5, 10);
        y.order(0, 1, 200);
        y.rate(1);
        y.pass(11);
        y.empty(0);
        y.pass(1);
        Check.due("the second one of the batch 1", 5, y.tank(0, 1));
        y.empty(0);
        y.pass(1);
        Check.due("the third one", 1, y.tank(0, 1));
    }

    private static void gradesAreThoseOfNow() {
        BatchPipe x = Pipes.running(1, 1, 200, 10);
        x.pass(9);
        x.product(1, 8, 3, 9, 0);
        x.pass(1);
        Check.due("the grade on the other side, as it is told now", 9, x.tank(0, 1));
        x.product(1, 8, 3, 2, 0);
        x.product(0, 8, 3, 6, 0);
        x.empty(0);
        x.pass(1);
        Check.due("and again", 6, x.tank(0, 1));
    }

    private static void tanksAreFourWithRoomFor100() {
        for (int t = 0; t < 4; t++) {
            int tank = t;
            BatchPipe x = Pipes.running(10, 0, 200, 5);
            x.receive(tank);
            Check.due("empty at first", 0, x.tank(tank, 0));
            x.pass(10);
            Check.due("full", 100, x.tank(tank, 0));
            Check.due("nothing spilled", 0, x.pipe(3));
            x.rate(1);
            x.pass(1);
            Check.due("one spilled", 1, x.pipe(3));
            for (int other = 0; other < 4; other++) {
                Check.due("the others have nothing", other == tank ? 100 : 0, x.tank(other, 0));
                Check.due("and no grade", other == tank ? 0 : -1, x.tank(other, 1));
            }
            Check.due("what it had", 100, x.empty(tank));
            Check.due("it has nothing", 0, x.empty(tank));
        }
    }

    private static void tankHasTheWorstSinceItWasEmpty() {
        BatchPipe x = Pipes.running(1, 0, 200, 5);
        int[] told = {3, 2, 3, 4, 0, 9, 8};
        int[] due = {3, 3, 3, 4, 4, 9, 9};
        for (int k = 0; k < told.length; k++) {
            x.product(0, 8, 3, told[k], 0);
            x.pass(1);
            Check.due("the worst of all that came", due[k], x.tank(0, 1));
        }
        x.empty(0);
        Check.due("none", -1, x.tank(0, 1));
        x.product(0, 8, 3, 0, 0);
        x.pass(1);
        Check.due("since it was empty", 0, x.tank(0, 1));
    }

    /** What is spilled is lost: it is no part of what the tank has. */
    private static void spilledUnitsAreLost() {
        BatchPipe x = Pipes.running(10, 5, 200, 60, 40);
        x.pass(9);
        x.rate(9);
        x.pass(1);
        Check.due("99", 99, x.tank(0, 0));
        // The last five of the batch 0 are mixed, at the mix 9: four of them came, and the fifth comes.
        Check.due("mixed", 4, x.tank(0, 2));
        x.rate(1);
        x.pass(1);
        Check.due("100", 100, x.tank(0, 0));
        Check.due("mixed, the last one that came", 5, x.tank(0, 2));
        Check.due("their grade", 5, x.tank(0, 1));
        x.product(5, 8, 3, 9, 0);
        x.pass(1);
        Check.due("the first of the batch 1 is spilled", 1, x.pipe(3));
        Check.due("the grade stays", 5, x.tank(0, 1));
        Check.due("the mixed ones stay", 5, x.tank(0, 2));
    }
}
