/**
 * One pipe for many oils: segments, products, batches that follow each other unit by unit,
 * a rate that gives way to pressure, a drop, a leak, tanks, mixes, pigs and shares.
 * All rows are made with the object; no call makes another one.
 */
public final class BatchPipe {
    public static final int NONE = -1;

    private static final int MOST_SEGMENTS = 6;
    private static final int LEAST_HELD = 5;
    private static final int MOST_HELD = 60;
    private static final int MOST_HEIGHT = 50;
    private static final int LEAST_LIMIT = 10;
    private static final int MOST_LIMIT = 500;
    private static final int MOST_DIRT = 200;
    private static final int PRODUCTS = 6;
    private static final int ALL_PRODUCTS = 63;
    private static final int MOST_WEIGHT = 10;
    private static final int MOST_THICKNESS = 10;
    private static final int WORST_GRADE = 9;
    private static final int MOST_BATCHES = 40;
    private static final int MOST_ORDERED = 200;
    private static final int SHIPPERS = 4;
    private static final int MOST_SHARED = 9999;
    private static final int TANKS = 4;
    private static final int TANK_ROOM = 100;
    private static final int MOST_RATE = 10;
    private static final int MOST_MINUTES = 60;
    private static final int LAST_MINUTE = 9999;
    private static final int BALANCED_MINUTES = 5;
    private static final int ALARM_BALANCE = 3;
    // A unit is one number, its batch times this and its place in that; no batch has as many units.
    private static final int PLACES = 512;
    // The first step of the whole root; its square is far above all that can ever enter.
    private static final int ROOT_STEP = 128;

    private final Segment[] segments = new Segment[MOST_SEGMENTS];
    private final Product[] products = new Product[PRODUCTS];
    private final Batch[] batches = new Batch[MOST_BATCHES];
    private final Tank[] tanks = new Tank[TANKS];
    private final int[] balances = new int[BALANCED_MINUTES];
    private final Tap leakTap = new Tap();
    private final Tap dropTap = new Tap();
    private final Tap outlet = new Tap();
    private int segmentCount;
    private int batchCount = 1;
    private boolean isOpen;
    private Batch inletBatch;
    private int enteredInAll;
    private int rateTold;
    private int rateFound;
    private int minute;
    private int pigBehind = NONE;

    public BatchPipe() {
        for (int k = 0; k < MOST_SEGMENTS; k++) {
            segments[k] = new Segment();
        }
        for (int k = 0; k < PRODUCTS; k++) {
            products[k] = new Product(k);
        }
        for (int k = 0; k < MOST_BATCHES; k++) {
            batches[k] = new Batch(k, products[0]);
        }
        for (int k = 0; k < TANKS; k++) {
            tanks[k] = new Tank();
        }
        inletBatch = batches[0];
    }

    // ---- pipe and products.

    public int segment(int holds, int height, int limit) throws IllegalArgumentException, IllegalStateException {
        checkRange(holds, LEAST_HELD, MOST_HELD);
        checkRange(height, 0, MOST_HEIGHT);
        checkRange(limit, LEAST_LIMIT, MOST_LIMIT);
        if (isOpen || segmentCount >= MOST_SEGMENTS) {
            throw new IllegalStateException("the pipe is open, or has all its segments");
        }
        segments[segmentCount].tell(holds, height, limit);
        segmentCount++;
        return segmentCount - 1;
    }

    public void product(int product, int weight, int thickness, int grade, int barred)
            throws IndexOutOfBoundsException, IllegalArgumentException {
        checkIndex(product, PRODUCTS);
        checkRange(weight, 1, MOST_WEIGHT);
        checkRange(thickness, 1, MOST_THICKNESS);
        checkRange(grade, 0, WORST_GRADE);
        checkRange(barred, 0, ALL_PRODUCTS);
        if ((barred & 1 << product) != 0) {
            throw new IllegalArgumentException("a product bars itself");
        }
        products[product].tell(weight, thickness, grade, barred);
    }

    public int open(int product) throws IndexOutOfBoundsException, IllegalStateException {
        checkIndex(product, PRODUCTS);
        if (isOpen || segmentCount == 0) {
            throw new IllegalStateException("the pipe is open, or has no segments");
        }
        int held = fillSegments(product);
        batches[0].tell(NONE, products[product], held);
        batches[0].entered = held;
        outlet.tell(segmentCount - 1, MOST_RATE, outlet.tank);
        isOpen = true;
        return held;
    }

    // ---- orders, rates, drops.

    public int order(int shipper, int product, int units)
            throws IndexOutOfBoundsException, IllegalArgumentException, IllegalStateException {
        checkIndex(shipper, SHIPPERS);
        checkIndex(product, PRODUCTS);
        checkRange(units, 1, MOST_ORDERED);
        if (batchCount >= MOST_BATCHES) {
            throw new IllegalStateException("there are all batches");
        }
        batches[batchCount].tell(shipper, products[product], units);
        batchCount++;
        return batchCount - 1;
    }

    public int rate(int units) throws IllegalArgumentException {
        checkRange(units, 0, MOST_RATE);
        int before = rateTold;
        rateTold = units;
        return before;
    }

    public void drop(int segment, int units, int tank) throws IndexOutOfBoundsException, IllegalArgumentException {
        checkOnTheWay(segment);
        checkIndex(tank, TANKS);
        checkRange(units, 1, MOST_RATE);
        dropTap.tell(segment, units, tank);
    }

    public void leak(int segment, int units) throws IndexOutOfBoundsException, IllegalArgumentException {
        checkOnTheWay(segment);
        checkRange(units, 1, MOST_RATE);
        leakTap.tell(segment, units, 0);
    }

    public int receive(int tank) throws IndexOutOfBoundsException {
        checkIndex(tank, TANKS);
        int before = outlet.tank;
        outlet.tank = tank;
        return before;
    }

    public int empty(int tank) throws IndexOutOfBoundsException {
        checkIndex(tank, TANKS);
        return tanks[tank].pourOut();
    }

    public void launch() throws IllegalStateException {
        if (!isOpen || pigBehind != NONE) {
            throw new IllegalStateException("the pipe is closed, or a pig is in it");
        }
        pigBehind = unitOf(inletBatch, inletBatch.entered - 1);
    }

    public int pass(int minutes) throws IllegalArgumentException, IllegalStateException {
        checkRange(minutes, 1, MOST_MINUTES);
        if (!isOpen || minute + minutes > LAST_MINUTE) {
            throw new IllegalStateException("the pipe is closed, or the minutes are at their end");
        }
        int entered = 0;
        for (int k = 0; k < minutes; k++) {
            entered += passOne();
        }
        return entered;
    }

    // ---- asking.

    public int batch(int batch, int what) throws IndexOutOfBoundsException, IllegalArgumentException {
        checkIndex(batch, batchCount);
        if (batch == 0 && !isOpen) {
            throw new IndexOutOfBoundsException("the batch 0 comes with the opening");
        }
        checkRange(what, 0, 7);
        Batch asked = batches[batch];
        switch (what) {
            case 0: return asked.inPipe();
            case 1: return asked.entered;
            case 2: return asked.left;
            case 3: return asked.dropped;
            case 4: return asked.leaked;
            case 5: return asked.waiting();
            case 6: return mixOf(asked);
            default: return asked.oil.number;
        }
    }

    public int unit(int unit) throws IndexOutOfBoundsException {
        checkUnit(unit);
        int ahead = unit;
        for (int k = isOpen ? segmentCount - 1 : NONE; k >= 0; k--) {
            if (ahead < segments[k].holds) {
                return batchOf(segments[k].fromEnd(ahead)).number;
            }
            ahead -= segments[k].holds;
        }
        return NONE;
    }

    public int unitAnew(int unit) throws IndexOutOfBoundsException {
        checkUnit(unit);
        int ahead = unit;
        // Whatever goes on the way, those that stay keep the order in which they entered.
        for (Batch next = isOpen ? batches[0] : null; next != null; next = next.behind) {
            if (ahead < next.inPipe()) {
                return next.number;
            }
            ahead -= next.inPipe();
        }
        return NONE;
    }

    public int pressure(int segment, int units)
            throws IndexOutOfBoundsException, IllegalArgumentException, IllegalStateException {
        checkIndex(segment, segmentCount);
        checkRange(units, 0, MOST_RATE);
        if (!isOpen) {
            throw new IllegalStateException("the pipe is closed");
        }
        int needed = headAt(segmentCount - 1);
        for (int k = segment; k < segmentCount; k++) {
            needed += friction(segments[k], units);
        }
        return atBeginning(segment, needed);
    }

    public int tank(int tank, int what) throws IndexOutOfBoundsException, IllegalArgumentException {
        checkIndex(tank, TANKS);
        checkRange(what, 0, 2);
        switch (what) {
            case 0: return tanks[tank].has;
            case 1: return tanks[tank].grade;
            default: return tanks[tank].mixed;
        }
    }

    public int pipe(int what) throws IllegalArgumentException {
        checkRange(what, 0, 5);
        switch (what) {
            case 0: return rateFound;
            case 1: return latestBalance();
            case 2: return latestBalance() >= ALARM_BALANCE ? 1 : 0;
            case 3: return spilledInAll();
            case 4: return pigBehind != NONE ? 1 : 0;
            default: return minute;
        }
    }

    public int dirt(int segment) throws IndexOutOfBoundsException {
        checkIndex(segment, segmentCount);
        return segments[segment].dirt;
    }

    public int share(int shipper, int units) throws IndexOutOfBoundsException, IllegalArgumentException {
        checkIndex(shipper, SHIPPERS);
        checkRange(units, 0, MOST_SHARED);
        int allWaiting = 0;
        int allClaims = 0;
        for (int k = 0; k < SHIPPERS; k++) {
            allWaiting += waitingFor(k);
            allClaims += claimOf(k);
        }
        int waiting = waitingFor(shipper);
        if (allWaiting <= units || allClaims <= 0) {
            return waiting;
        }
        return Math.min(waiting, units * claimOf(shipper) / allClaims);
    }

    // ---- what the arguments may be.

    private void checkIndex(int index, int count) {
        if (index < 0 || index >= count) {
            throw new IndexOutOfBoundsException("there is no such one");
        }
    }

    private void checkRange(int value, int least, int most) {
        if (value < least || value > most) {
            throw new IllegalArgumentException("out of range");
        }
    }

    private void checkOnTheWay(int segment) {
        if (segment != NONE) {
            checkIndex(segment, segmentCount - 1);
        }
    }

    private void checkUnit(int unit) {
        if (unit < 0) {
            throw new IndexOutOfBoundsException("there is no such unit");
        }
    }

    // ---- units.

    private int unitOf(Batch batch, int place) {
        return batch.number * PLACES + place;
    }

    private int placeOf(int unit) {
        return unit % PLACES;
    }

    // Every unit is of a batch that there is; the test only keeps the index within the row.
    private Batch batchOf(int unit) {
        int number = unit / PLACES;
        return number >= 0 && number < batchCount ? batches[number] : batches[0];
    }

    private int fillSegments(int product) {
        int filled = 0;
        for (int k = segmentCount - 1; k >= 0; k--) {
            segments[k].fill(filled, product);
            filled += segments[k].holds;
        }
        return filled;
    }

    // ---- a minute.

    private int passOne() {
        leakTap.taken = 0;
        dropTap.taken = 0;
        outlet.taken = 0;
        rateFound = findRate();
        int entered = 0;
        while (entered < rateFound && moveOne()) {
            entered++;
        }
        if (entered > 0) {
            soil();
        }
        balances[minute % BALANCED_MINUTES] = entered - outlet.taken - dropTap.taken;
        minute++;
        return entered;
    }

    private int findRate() {
        for (int units = rateTold; units > 0; units--) {
            if (noneAbove(units)) {
                return units;
            }
        }
        return 0;
    }

    private boolean noneAbove(int units) {
        int needed = headAt(segmentCount - 1);
        for (int k = segmentCount - 1; k >= 0; k--) {
            needed += friction(segments[k], units);
            if (atBeginning(k, needed) > segments[k].limit) {
                return false;
            }
        }
        return true;
    }

    private int atBeginning(int segment, int needed) {
        return Math.max(0, needed - headAt(segment - 1));
    }

    // Ahead of the segment 0 is the inlet, whose height is 0.
    private int headAt(int segment) {
        if (segment < 0 || segment >= segmentCount) {
            return 0;
        }
        return batchOf(segments[segment].fromEnd(0)).oil.weight * segments[segment].height;
    }

    private int friction(Segment segment, int units) {
        int sum = segment.dirt;
        for (int k = 0; k < PRODUCTS; k++) {
            sum += segment.unitsOf[k] * products[k].thickness;
        }
        return (units * sum + 99) / 100;
    }

    private boolean moveOne() {
        Batch entering = nextBatch();
        if (entering == null) {
            return false;
        }
        Tap tap = nextTap();
        sendOff(tap);
        bringIn(entering, tap.segment);
        return true;
    }

    private Batch nextBatch() {
        if (inletBatch.waiting() > 0) {
            return inletBatch;
        }
        for (int k = 1; k < batchCount; k++) {
            if (batches[k].entered == 0 && batches[k].oil.bears(inletBatch.oil)) {
                return batches[k];
            }
        }
        return null;
    }

    private Tap nextTap() {
        if (leakTap.takesMore()) {
            return leakTap;
        }
        return dropTap.takesMore() ? dropTap : outlet;
    }

    // All of this is ahead of the unit that enters: its batch must not be counted before.
    private void sendOff(Tap tap) {
        int unit = segments[tap.segment].fromEnd(0);
        Batch batch = batchOf(unit);
        int place = placeOf(unit);
        tap.taken++;
        if (tap == leakTap) {
            batch.leaked++;
        } else if (tap == dropTap) {
            batch.dropped++;
            pour(batch, place, tanks[tap.tank]);
        } else {
            batch.left++;
            pour(batch, place, tanks[tap.tank]);
        }
        if (place == 0) {
            batch.mix = mixOf(batch);
            batch.firstGone = true;
        }
        if (unit == pigBehind) {
            pigBehind = NONE;
            cleanUpTo(tap.segment);
        }
    }

    private void bringIn(Batch entering, int end) {
        if (entering != inletBatch) {
            entering.ahead = inletBatch;
            inletBatch.behind = entering;
            entering.enteredBefore = enteredInAll;
            inletBatch = entering;
        }
        int moving = unitOf(entering, entering.entered);
        entering.entered++;
        enteredInAll++;
        for (int k = 0; k <= end; k++) {
            int last = segments[k].fromEnd(0);
            segments[k].unitsOf[batchOf(moving).oil.number]++;
            segments[k].unitsOf[batchOf(last).oil.number]--;
            segments[k].moveOn(moving);
            moving = last;
        }
    }

    private void soil() {
        for (int k = 0; k < segmentCount; k++) {
            segments[k].dirt = Math.min(MOST_DIRT, segments[k].dirt + 1);
        }
    }

    private void cleanUpTo(int end) {
        for (int k = 0; k <= end; k++) {
            segments[k].dirt = 0;
        }
    }

    // ---- mixes and tanks.

    private int mixOf(Batch batch) {
        if (batch.ahead == null || batch.ahead.oil == batch.oil) {
            return 0;
        }
        return batch.firstGone ? batch.mix : wholeRoot(enteredInAll - batch.enteredBefore);
    }

    private int wholeRoot(int number) {
        int root = 0;
        for (int step = ROOT_STEP; step > 0; step /= 2) {
            if ((root + step) * (root + step) <= number) {
                root += step;
            }
        }
        return root;
    }

    // So many are fewer than half the mix, rounded up, if twice as many are fewer than the mix.
    private void pour(Batch batch, int place, Tank tank) {
        int grade = batch.oil.grade;
        boolean mixed = false;
        if (batch.ahead != null && place * 2 < mixOf(batch)) {
            mixed = true;
            grade = Math.max(grade, batch.ahead.oil.grade);
        }
        if (batch.behind != null && (batch.entered - 1 - place) * 2 < mixOf(batch.behind)) {
            mixed = true;
            grade = Math.max(grade, batch.behind.oil.grade);
        }
        tank.take(grade, mixed);
    }

    private int spilledInAll() {
        int spilled = 0;
        for (int k = 0; k < TANKS; k++) {
            spilled += tanks[k].spilled;
        }
        return spilled;
    }

    // ---- balances and shares.

    private int latestBalance() {
        int sum = 0;
        for (int k = 0; k < BALANCED_MINUTES; k++) {
            sum += balances[k];
        }
        return sum;
    }

    private int waitingFor(int shipper) {
        int waiting = 0;
        for (int k = 1; k < batchCount; k++) {
            waiting += batches[k].shipper == shipper ? batches[k].waiting() : 0;
        }
        return waiting;
    }

    // A shipper of whom nothing entered yet has a claim too: that is the 1.
    private int claimOf(int shipper) {
        int claim = 1;
        for (int k = 1; k < batchCount; k++) {
            claim += batches[k].shipper == shipper ? batches[k].entered : 0;
        }
        return claim;
    }

    // ---- what the pipe is made of.

    /** A segment, always full: its units stand in a ring, so that moving on changes one place. */
    private static final class Segment {
        private final int[] ring = new int[MOST_HELD];
        private final int[] unitsOf = new int[PRODUCTS];
        private int last;
        private int holds = LEAST_HELD;
        private int height;
        private int limit;
        private int dirt;

        private void tell(int holdsTold, int heightTold, int limitTold) {
            holds = holdsTold;
            height = heightTold;
            limit = limitTold;
        }

        /** Fills it with units of the batch 0, whose numbers are their places. */
        private void fill(int firstPlace, int product) {
            for (int k = 0; k < holds; k++) {
                ring[k] = firstPlace + k;
            }
            unitsOf[product] = holds;
        }

        /** The unit ahead of which, in this segment, are so many. */
        private int fromEnd(int ahead) {
            int at = last + ahead;
            if (at >= holds) {
                at -= holds;
            }
            return at >= 0 && at < holds ? ring[at] : 0;
        }

        /** The last unit goes, and what comes in takes its place in the ring. */
        private void moveOn(int coming) {
            ring[last] = coming;
            last = last + 1 < holds ? last + 1 : 0;
        }
    }

    /** A product as it was told last. */
    private static final class Product {
        private final int number;
        private int weight = 8;
        private int thickness = 3;
        private int grade;
        private int barred;

        private Product(int number) {
            this.number = number;
            this.grade = number;
        }

        private void tell(int weightTold, int thicknessTold, int gradeTold, int barredTold) {
            weight = weightTold;
            thickness = thicknessTold;
            grade = gradeTold;
            barred = barredTold;
        }

        private boolean bears(Product other) {
            return (barred & 1 << other.number) == 0 && (other.barred & 1 << number) == 0;
        }
    }

    /** A batch; ahead and behind are those that entered next to it, null where there is none. */
    private static final class Batch {
        private final int number;
        private Product oil;
        private int shipper = NONE;
        private int ordered;
        private int entered;
        private int left;
        private int dropped;
        private int leaked;
        private Batch ahead;
        private Batch behind;
        private int enteredBefore;
        private boolean firstGone;
        private int mix;

        private Batch(int number, Product oil) {
            this.number = number;
            this.oil = oil;
        }

        private void tell(int shipperTold, Product oilTold, int units) {
            shipper = shipperTold;
            oil = oilTold;
            ordered = units;
        }

        private int inPipe() {
            return entered - left - dropped - leaked;
        }

        private int waiting() {
            return ordered - entered;
        }
    }

    /** A tank; what it spills is no part of its grade. */
    private static final class Tank {
        private int has;
        private int grade = NONE;
        private int mixed;
        private int spilled;

        private void take(int gradeTaken, boolean isMixed) {
            if (has >= TANK_ROOM) {
                spilled++;
                return;
            }
            has++;
            grade = Math.max(grade, gradeTaken);
            mixed += isMixed ? 1 : 0;
        }

        private int pourOut() {
            int had = has;
            has = 0;
            grade = NONE;
            mixed = 0;
            return had;
        }
    }

    /** Where units go: at the end of a segment, so many a minute, into a tank. */
    private static final class Tap {
        private int segment = NONE;
        private int units;
        private int tank;
        private int taken;

        private void tell(int segmentTold, int unitsTold, int tankTold) {
            segment = segmentTold;
            units = unitsTold;
            tank = tankTold;
        }

        private boolean takesMore() {
            return segment != NONE && taken < units;
        }
    }
}
