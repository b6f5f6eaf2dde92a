import java.util.ArrayList;
import java.util.List;

/**
 * The document once more, told in another way: every unit is an object in one list from the outlet to
 * the inlet, and what can be counted is counted from the list of all units that ever entered. An answer
 * is a text, the number or the name of what is thrown.
 */
final class Model {
    private static final class Unit {
        final int batch;
        final int place;
        final int serial;
        char gone = '-';

        Unit(int batch, int place, int serial) {
            this.batch = batch;
            this.place = place;
            this.serial = serial;
        }
    }

    private static final String OK = "ok";
    private static final String INDEX = "IndexOutOfBoundsException";
    private static final String ARGUMENT = "IllegalArgumentException";
    private static final String STATE = "IllegalStateException";

    private final List<int[]> segments = new ArrayList<>();
    private final int[][] products = new int[6][];
    private final List<int[]> orders = new ArrayList<>();
    private final List<Unit> all = new ArrayList<>();
    private final List<Unit> pipe = new ArrayList<>();
    private final List<Integer> sequence = new ArrayList<>();
    private final List<Integer> balances = new ArrayList<>();
    private final int[] frozen = new int[40];
    private final int[] dirt = new int[6];
    private final int[][] tanks = {{0, -1, 0}, {0, -1, 0}, {0, -1, 0}, {0, -1, 0}};
    private int[] drop = {-1, 0, 0};
    private int[] leak = {-1, 0};
    private int outlet;
    private int told;
    private int found;
    private int spilled;
    private Unit pig;

    Model() {
        for (int p = 0; p < 6; p++) {
            products[p] = new int[] {8, 3, p, 0};
        }
        orders.add(null);
        java.util.Arrays.fill(frozen, -1);
    }

    private static boolean in(int value, int least, int most) {
        return least <= value && value <= most;
    }

    private boolean closed() {
        return orders.get(0) == null;
    }

    String segment(int holds, int height, int limit) {
        if (!in(holds, 5, 60) || !in(height, 0, 50) || !in(limit, 10, 500)) {
            return ARGUMENT;
        }
        if (segments.size() == 6 || !closed()) {
            return STATE;
        }
        segments.add(new int[] {holds, height, limit});
        return "" + (segments.size() - 1);
    }

    String product(int product, int weight, int thickness, int grade, int barred) {
        if (!in(product, 0, 5)) {
            return INDEX;
        }
        boolean barsItself = (barred >> product) % 2 != 0;
        if (!in(weight, 1, 10) || !in(thickness, 1, 10) || !in(grade, 0, 9) || !in(barred, 0, 63) || barsItself) {
            return ARGUMENT;
        }
        products[product] = new int[] {weight, thickness, grade, barred};
        return OK;
    }

    String open(int product) {
        if (!in(product, 0, 5)) {
            return INDEX;
        }
        if (!closed() || segments.isEmpty()) {
            return STATE;
        }
        int holds = 0;
        for (int[] s : segments) {
            holds += s[0];
        }
        orders.set(0, new int[] {-1, product, holds});
        sequence.add(0);
        for (int k = 0; k < holds; k++) {
            enter(0);
        }
        return "" + holds;
    }

    private void enter(int batch) {
        Unit u = new Unit(batch, count(batch, '*'), all.size());
        all.add(u);
        pipe.add(u);
    }

    /** Units of a batch that went so; '*' for all that entered, '-' for those in the pipe. */
    private int count(int batch, char gone) {
        int n = 0;
        for (Unit u : all) {
            n += u.batch == batch && (gone == '*' || u.gone == gone) ? 1 : 0;
        }
        return n;
    }

    String order(int shipper, int product, int units) {
        if (!in(shipper, 0, 3) || !in(product, 0, 5)) {
            return INDEX;
        }
        if (!in(units, 1, 200)) {
            return ARGUMENT;
        }
        if (orders.size() == 40) {
            return STATE;
        }
        orders.add(new int[] {shipper, product, units});
        return "" + (orders.size() - 1);
    }

    String rate(int units) {
        if (!in(units, 0, 10)) {
            return ARGUMENT;
        }
        int before = told;
        told = units;
        return "" + before;
    }

    String drop(int segment, int units, int tank) {
        if (!in(segment, -1, Math.max(-1, segments.size() - 2)) || !in(tank, 0, 3)) {
            return INDEX;
        }
        if (!in(units, 1, 10)) {
            return ARGUMENT;
        }
        drop = new int[] {segment, units, tank};
        return OK;
    }

    String leak(int segment, int units) {
        if (!in(segment, -1, Math.max(-1, segments.size() - 2))) {
            return INDEX;
        }
        if (!in(units, 1, 10)) {
            return ARGUMENT;
        }
        leak = new int[] {segment, units};
        return OK;
    }

    String receive(int tank) {
        if (!in(tank, 0, 3)) {
            return INDEX;
        }
        int before = outlet;
        outlet = tank;
        return "" + before;
    }

    String empty(int tank) {
        if (!in(tank, 0, 3)) {
            return INDEX;
        }
        int had = tanks[tank][0];
        tanks[tank] = new int[] {0, -1, 0};
        return "" + had;
    }

    String launch() {
        if (closed() || pig != null) {
            return STATE;
        }
        pig = all.get(all.size() - 1);
        return OK;
    }

    String pass(int minutes) {
        if (!in(minutes, 1, 60)) {
            return ARGUMENT;
        }
        if (closed() || balances.size() + minutes > 9999) {
            return STATE;
        }
        int before = all.size();
        for (int k = 0; k < minutes; k++) {
            minute();
        }
        return "" + (all.size() - before);
    }

    private void minute() {
        found = 0;
        for (int r = 1; r <= told; r++) {
            boolean bearable = true;
            for (int k = 0; k < segments.size(); k++) {
                bearable &= pressureAt(k, r) <= segments.get(k)[2];
            }
            found = bearable ? r : found;
        }
        int balance = 0;
        int leaked = 0;
        int dropped = 0;
        int moved = 0;
        for (int step = 0; step < found; step++) {
            int coming = coming();
            if (coming < 0) {
                continue;
            }
            moved++;
            balance++;
            if (leak[0] >= 0 && leaked < leak[1]) {
                leaked++;
                go(leak[0], 'k', -1);
            } else if (drop[0] >= 0 && dropped < drop[1]) {
                dropped++;
                balance--;
                go(drop[0], 'd', drop[2]);
            } else {
                balance--;
                go(segments.size() - 1, 'o', outlet);
            }
            if (sequence.get(sequence.size() - 1) != coming) {
                sequence.add(coming);
            }
            enter(coming);
        }
        for (int k = 0; k < segments.size() && moved > 0; k++) {
            dirt[k] = dirt[k] < 200 ? dirt[k] + 1 : 200;
        }
        balances.add(balance);
    }

    private int coming() {
        int inlet = all.get(all.size() - 1).batch;
        if (count(inlet, '*') < orders.get(inlet)[2]) {
            return inlet;
        }
        int first = orders.get(inlet)[1];
        for (int b = 1; b < orders.size(); b++) {
            int second = orders.get(b)[1];
            boolean bears = (products[first][3] >> second) % 2 == 0 && (products[second][3] >> first) % 2 == 0;
            if (!sequence.contains(b) && bears) {
                return b;
            }
        }
        return -1;
    }

    /** Where the last unit of a segment stands in the list, which starts at the outlet. */
    private int lastOf(int segment) {
        int at = 0;
        for (int k = segments.size() - 1; k > segment; k--) {
            at += segments.get(k)[0];
        }
        return at;
    }

    private void go(int segment, char how, int tank) {
        Unit u = pipe.get(lastOf(segment));
        if (tank >= 0) {
            into(tank, u);
        }
        if (u.place == 0) {
            frozen[u.batch] = mix(u.batch);
        }
        u.gone = how;
        pipe.remove(u);
        if (u == pig) {
            pig = null;
            for (int k = 0; k <= segment; k++) {
                dirt[k] = 0;
            }
        }
    }

    private void into(int tank, Unit u) {
        int at = sequence.indexOf(u.batch);
        int grade = products[orders.get(u.batch)[1]][2];
        int mixed = 0;
        if (at > 0 && u.place < Math.ceil(mix(u.batch) / 2.0)) {
            mixed = 1;
            grade = Math.max(grade, products[orders.get(sequence.get(at - 1))[1]][2]);
        }
        if (at + 1 < sequence.size()) {
            int next = sequence.get(at + 1);
            int behind = 0;
            for (Unit v : all) {
                behind += v.batch == u.batch && v.serial > u.serial ? 1 : 0;
            }
            if (behind < Math.ceil(mix(next) / 2.0)) {
                mixed = 1;
                grade = Math.max(grade, products[orders.get(next)[1]][2]);
            }
        }
        if (tanks[tank][0] == 100) {
            spilled++;
            return;
        }
        tanks[tank][0]++;
        tanks[tank][1] = Math.max(tanks[tank][1], grade);
        tanks[tank][2] += mixed;
    }

    private int mix(int batch) {
        int at = sequence.indexOf(batch);
        if (at < 1 || orders.get(sequence.get(at - 1))[1] == orders.get(batch)[1]) {
            return 0;
        }
        if (frozen[batch] >= 0) {
            return frozen[batch];
        }
        for (Unit u : all) {
            if (u.batch == batch) {
                return (int) Math.sqrt(all.size() - u.serial);
            }
        }
        return 0;
    }

    private int pressureAt(int segment, int rate) {
        int sum = weightAt(segments.size() - 1);
        for (int k = segment; k < segments.size(); k++) {
            int thick = dirt[k];
            for (int u = lastOf(k); u < lastOf(k - 1); u++) {
                thick += products[orders.get(pipe.get(u).batch)[1]][1];
            }
            sum += (int) Math.ceil(rate * thick / 100.0);
        }
        return Math.max(0, segment == 0 ? sum : sum - weightAt(segment - 1));
    }

    private int weightAt(int segment) {
        return products[orders.get(pipe.get(lastOf(segment)).batch)[1]][0] * segments.get(segment)[1];
    }

    String batch(int batch, int what) {
        if (!in(batch, 0, orders.size() - 1) || orders.get(batch) == null) {
            return INDEX;
        }
        if (!in(what, 0, 7)) {
            return ARGUMENT;
        }
        if (what < 5) {
            return "" + count(batch, "-*odk".charAt(what));
        }
        int[] order = orders.get(batch);
        return "" + (what == 5 ? order[2] - count(batch, '*') : what == 6 ? mix(batch) : order[1]);
    }

    String unit(int unit) {
        if (unit < 0) {
            return INDEX;
        }
        return "" + (unit < pipe.size() ? pipe.get(unit).batch : -1);
    }

    String pressure(int segment, int units) {
        if (!in(segment, 0, segments.size() - 1)) {
            return INDEX;
        }
        if (!in(units, 0, 10)) {
            return ARGUMENT;
        }
        return closed() ? STATE : "" + pressureAt(segment, units);
    }

    String tank(int tank, int what) {
        if (!in(tank, 0, 3)) {
            return INDEX;
        }
        return in(what, 0, 2) ? "" + tanks[tank][what] : ARGUMENT;
    }

    String pipe(int what) {
        int sum = 0;
        for (int k = Math.max(0, balances.size() - 5); k < balances.size(); k++) {
            sum += balances.get(k);
        }
        int[] answers = {found, sum, sum >= 3 ? 1 : 0, spilled, pig == null ? 0 : 1, balances.size()};
        return in(what, 0, 5) ? "" + answers[what] : ARGUMENT;
    }

    String dirt(int segment) {
        return in(segment, 0, segments.size() - 1) ? "" + dirt[segment] : INDEX;
    }

    String share(int shipper, int units) {
        if (!in(shipper, 0, 3)) {
            return INDEX;
        }
        if (!in(units, 0, 9999)) {
            return ARGUMENT;
        }
        int[] waits = new int[4];
        int[] claims = {1, 1, 1, 1};
        for (int b = 1; b < orders.size(); b++) {
            int[] order = orders.get(b);
            claims[order[0]] += count(b, '*');
            waits[order[0]] += order[2] - count(b, '*');
        }
        if (waits[0] + waits[1] + waits[2] + waits[3] <= units) {
            return "" + waits[shipper];
        }
        long part = (long) units * claims[shipper] / (claims[0] + claims[1] + claims[2] + claims[3]);
        return "" + Math.min(part, waits[shipper]);
    }
}
