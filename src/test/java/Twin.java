/**
 * What a refused call leaves behind: the answers asked behind it are those from ahead of it, and all that
 * comes later is what comes of a twin, an object of the same calls but for the refused one.
 */
final class Twin {
    interface Calls {
        void on(BatchPipe x);
    }

    static final String INDEX = "IndexOutOfBoundsException";
    static final String ARGUMENT = "IllegalArgumentException";
    static final String STATE = "IllegalStateException";

    private Twin() {
    }

    static void refused(String what, String due, Calls state, Calls call) {
        BatchPipe refused = new BatchPipe();
        state.on(refused);
        String ahead = Snapshot.of(refused);
        Check.thrown(what, due, () -> call.on(refused));
        Check.due(what + ": the answers behind it", ahead, Snapshot.of(refused));
        BatchPipe spared = new BatchPipe();
        state.on(spared);
        Check.due(what + ": what comes later", Snapshot.later(spared), Snapshot.later(refused));
    }

    // ---- states in which calls are refused.

    static void fresh(BatchPipe x) {
    }

    static void told(BatchPipe x) {
        x.segment(6, 10, 300);
        x.segment(5, 4, 200);
        x.segment(7, 2, 100);
        x.product(1, 6, 5, 3, 4);
        x.order(0, 1, 8);
        x.order(1, 2, 30);
        x.rate(3);
        x.receive(1);
        x.drop(0, 1, 2);
        x.leak(1, 1);
    }

    static void running(BatchPipe x) {
        told(x);
        x.open(0);
        x.pass(2);
        x.launch();
        x.pass(2);
    }

    static void fiveSegments(BatchPipe x) {
        for (int k = 0; k < 5; k++) {
            x.segment(5 + k % 2, k, 300);
        }
    }

    static void sixSegments(BatchPipe x) {
        fiveSegments(x);
        x.segment(5, 0, 300);
    }

    static void sixSegmentsOpen(BatchPipe x) {
        sixSegments(x);
        x.open(4);
    }

    /** The batch 0 counted: 38 orders. */
    static void batches39(BatchPipe x) {
        x.segment(5, 0, 300);
        for (int k = 1; k <= 38; k++) {
            x.order(k % 4, k % 6, k);
        }
    }

    static void batches40(BatchPipe x) {
        batches39(x);
        x.order(3, 3, 39);
    }

    static void batches40Open(BatchPipe x) {
        batches40(x);
        x.open(2);
        x.rate(7);
        x.pass(3);
    }

    static void minute9990(BatchPipe x) {
        x.segment(5, 0, 300);
        x.open(0);
        x.order(1, 1, 20);
        x.rate(1);
        for (int k = 0; k < 166; k++) {
            x.pass(60);
        }
        x.order(2, 0, 40);
        x.pass(30);
    }

    static void minute9999(BatchPipe x) {
        minute9990(x);
        x.pass(9);
    }
}
