/**
 * Long runs of calls, the same ones each time, on an object and on the model: all answers are alike. A run has
 * at most 512 calls, for behind them the answers are free.
 */
public final class ModelTest {
    private static final int RUNS = 2000;
    // Each time one call that changes something and one that asks.
    private static final int TIMES = 250;
    private static final int TIMES_AHEAD_OF_ALL = 125;

    private interface Asked {
        int answer();
    }

    private interface Told {
        void run();
    }

    private final BatchPipe x = new BatchPipe();
    private final Model m = new Model();
    private final int run;
    private long seed;

    private ModelTest(int run) {
        this.run = run;
        this.seed = run * 7919L + 17;
    }

    public static void main(String[] args) {
        for (int run = 0; run < RUNS; run++) {
            new ModelTest(run).walk();
        }
        Check.end();
    }

    private int below(int bound) {
        seed = seed * 6364136223846793005L + 1442695040888963407L;
        return (int) ((seed >>> 33) % bound);
    }

    private int between(int least, int most) {
        return least + below(most - least + 1);
    }

    /** Mostly within, at times at an edge or just outside, seldom far outside. */
    private int about(int least, int most) {
        switch (below(60)) {
            case 0: return least - 1;
            case 1: return most + 1;
            case 2: return Integer.MIN_VALUE + below(2);
            case 3: return Integer.MAX_VALUE - below(2);
            case 4: case 5: return least;
            case 6: case 7: return most;
            default: return between(least, most);
        }
    }

    private void alike(String call, String due, Asked asked) {
        String got;
        try {
            got = "" + asked.answer();
        } catch (RuntimeException e) {
            got = e.getClass().getSimpleName();
        }
        Check.due("run " + run + ": " + call, due, got);
    }

    private void alike(String call, String due, Told told) {
        String got = "ok";
        try {
            told.run();
        } catch (RuntimeException e) {
            got = e.getClass().getSimpleName();
        }
        Check.due("run " + run + ": " + call, due, got);
    }

    private void walk() {
        int segments = between(1, run % 10 == 0 ? 6 : 3);
        int greatest = run % 3 == 0 ? 60 : 12;
        for (int k = 0; k < segments; k++) {
            int holds = between(5, greatest);
            int height = run % 2 == 0 ? between(0, 50) : between(0, 8);
            int limit = run % 4 == 0 ? between(10, 60) : between(100, 500);
            alike("segment", m.segment(holds, height, limit), () -> x.segment(holds, height, limit));
        }
        boolean asksAll = run % 2 == 1;
        for (int k = 0; k < (asksAll ? TIMES_AHEAD_OF_ALL : TIMES); k++) {
            change(below(40), k);
            ask(below(9));
        }
        if (asksAll) {
            askAll(run / 2 % 3);
        }
    }

    private void change(int which, int call) {
        if (which < 8) {
            int minutes = run % 5 == 0 ? about(1, 60) : about(1, 4);
            alike("pass(" + minutes + ")", m.pass(minutes), () -> x.pass(minutes));
        } else if (which < 14) {
            int shipper = about(0, 3);
            int product = about(0, 5);
            int units = run % 3 == 1 ? about(1, 200) : between(1, 12);
            alike("order", m.order(shipper, product, units), () -> x.order(shipper, product, units));
        } else if (which < 18) {
            int units = about(0, 10);
            alike("rate(" + units + ")", m.rate(units), () -> x.rate(units));
        } else if (which < 22) {
            int segment = about(-1, 4);
            int units = about(1, below(2) == 0 ? 3 : 10);
            int tank = about(0, 3);
            alike("drop", m.drop(segment, units, tank), () -> x.drop(segment, units, tank));
        } else if (which < 25) {
            int segment = about(-1, 3);
            int units = about(1, below(2) == 0 ? 2 : 10);
            alike("leak", m.leak(segment, units), () -> x.leak(segment, units));
        } else if (which < 28) {
            alike("launch", m.launch(), () -> x.launch());
        } else if (which < 31) {
            int tank = about(0, 3);
            alike("receive", m.receive(tank), () -> x.receive(tank));
        } else if (which < 34) {
            int tank = about(0, 3);
            alike("empty", m.empty(tank), () -> x.empty(tank));
        } else if (which < 37) {
            changeProduct();
        } else if (which < 38) {
            int holds = about(5, 12);
            alike("segment", m.segment(holds, 10, 300), () -> x.segment(holds, 10, 300));
        } else if (call > 5) {
            int product = about(0, 5);
            alike("open", m.open(product), () -> x.open(product));
        }
    }

    private void changeProduct() {
        int product = about(0, 5);
        int weight = about(1, 10);
        int thickness = about(1, 10);
        int grade = about(0, 9);
        int barred = below(3) == 0 ? about(0, 63) : 1 << below(6) & ~(1 << (product & 31));
        alike("product", m.product(product, weight, thickness, grade, barred),
                () -> x.product(product, weight, thickness, grade, barred));
    }

    private void ask(int which) {
        int first = which == 0 ? about(0, 40) : which < 3 ? about(0, 60) : about(0, 3);
        int what = which == 0 ? about(0, 7) : which == 3 ? about(0, 10) : which == 4 ? about(0, 2) : about(0, 5);
        int units = below(3) == 0 ? about(0, 9999) : between(0, 99);
        switch (which) {
            case 0: alike("batch(" + first + ", " + what + ")", m.batch(first, what), () -> x.batch(first, what)); break;
            case 1: alike("unit(" + first + ")", m.unit(first), () -> x.unit(first)); break;
            case 2: alike("unitAnew(" + first + ")", m.unit(first), () -> x.unitAnew(first)); break;
            case 3: alike("pressure(" + first + ", " + what + ")", m.pressure(first, what), () -> x.pressure(first, what)); break;
            case 4: alike("tank(" + first + ", " + what + ")", m.tank(first, what), () -> x.tank(first, what)); break;
            case 5: alike("pipe(" + what + ")", m.pipe(what), () -> x.pipe(what)); break;
            case 6: alike("dirt(" + first + ")", m.dirt(first), () -> x.dirt(first)); break;
            default: alike("share(" + first + ", " + units + ")", m.share(first, units), () -> x.share(first, units)); break;
        }
    }

    private void askAll(int kind) {
        for (int k = 0; k < 120 && kind == 0; k++) {
            int unit = run % 4 == 1 ? k : 3 * k;
            alike("unit at the end", m.unit(unit), () -> x.unit(unit));
            alike("unitAnew at the end", m.unit(unit), () -> x.unitAnew(unit));
        }
        for (int k = 0; k < 30 * 8 && kind == 1; k++) {
            int batch = k / 8;
            int what = k % 8;
            alike("batch at the end", m.batch(batch, what), () -> x.batch(batch, what));
        }
        for (int k = 0; k < 66 && kind == 2; k++) {
            int segment = k / 11;
            int units = k % 11;
            alike("pressure at the end", m.pressure(segment, units), () -> x.pressure(segment, units));
            alike("share at the end", m.share(segment, units), () -> x.share(segment, units));
        }
        for (int k = 0; k < 12 && kind == 2; k++) {
            int what = k;
            alike("tank at the end", m.tank(what / 3, what % 3), () -> x.tank(what / 3, what % 3));
            alike("pipe at the end", m.pipe(what), () -> x.pipe(what));
            alike("dirt at the end", m.dirt(what), () -> x.dirt(what));
        }
    }
}
