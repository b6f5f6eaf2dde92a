/** All that can be asked of an object, as one text; it stays far below the document's 512 calls. */
final class Snapshot {
    interface Asked {
        int answer();
    }

    private static final int MOST_UNITS = 50;

    private final StringBuilder text = new StringBuilder();

    private Snapshot() {
    }

    static String of(BatchPipe x) {
        Snapshot s = new Snapshot();
        for (int batch = 0; batch <= 40; batch = batch == 4 ? 38 : batch + 1) {
            s.batch(x, batch);
        }
        s.units(x);
        for (int segment = 0; segment < 6; segment++) {
            int asked = segment;
            s.add("dirt", () -> x.dirt(asked));
            s.add("pressure", () -> x.pressure(asked, 0));
            s.add("pressure", () -> x.pressure(asked, 9));
        }
        for (int k = 0; k < 12; k++) {
            int asked = k;
            s.add("tank", () -> x.tank(asked / 3, asked % 3));
        }
        for (int k = 0; k < 6; k++) {
            int asked = k;
            s.add("pipe", () -> x.pipe(asked));
        }
        for (int k = 0; k < 4; k++) {
            int asked = k;
            s.add("share", () -> x.share(asked, 7));
        }
        return s.text.toString();
    }

    /** What is told but can't be asked shows in what comes of it. */
    static String later(BatchPipe x) {
        Snapshot s = new Snapshot();
        s.add("segment", () -> x.segment(7, 3, 400));
        s.add("segment", () -> x.segment(5, 0, 300));
        s.add("open", () -> x.open(1));
        s.add("order", () -> x.order(2, 2, 3));
        s.add("order", () -> x.order(3, 1, 2));
        s.add("order", () -> x.order(0, 0, 40));
        s.add("pass", () -> x.pass(1));
        s.add("rate", () -> x.rate(4));
        s.add("pass", () -> x.pass(2));
        s.add("receive", () -> x.receive(3));
        s.add("pass", () -> x.pass(3));
        s.add("launch", () -> {
            x.launch();
            return 0;
        });
        s.add("empty", () -> x.empty(2));
        s.add("pass", () -> x.pass(1));
        return s.text.append(of(x)).toString();
    }

    static String answerOf(Asked asked) {
        try {
            return Integer.toString(asked.answer());
        } catch (RuntimeException e) {
            return e.getClass().getSimpleName();
        }
    }

    private String add(String what, Asked asked) {
        String answer = answerOf(asked);
        text.append(what).append(' ').append(answer).append("; ");
        return answer;
    }

    private void batch(BatchPipe x, int batch) {
        boolean there = true;
        for (int k = 0; k < 8 && there; k++) {
            int what = k;
            there = !add("batch", () -> x.batch(batch, what)).equals(Twin.INDEX);
        }
    }

    private void units(BatchPipe x) {
        boolean there = true;
        for (int k = 0; k < MOST_UNITS && there; k++) {
            int unit = k;
            there = !add("unit", () -> x.unit(unit)).equals("-1");
            there |= !add("unitAnew", () -> x.unitAnew(unit)).equals("-1");
        }
    }
}
