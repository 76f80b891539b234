/** A house for grain in tall bins; ../shared/DOC.md says what each call answers. */
public final class TallBins {
    public static final int NONE = -1;

    private static final int NOTHING = -2000000000;
    private static final int NO_SUCH = -2;
    private static final int NO_ROOM = -3;
    private static final int NEGATIVE = -3;
    private static final int FAULTY = -4;
    private static final int BUSY = -5;
    private static final int EMPTY = -6;
    private static final int BARRED = -6;
    private static final int OUTSIDE = -7;
    private static final int OTHER_WIDTH = -8;
    private static final int DISAGREEING = -5000;

    private static final int BINS = 6;
    private static final int GRAINS = 4;
    private static final int LOTS = 8;
    private static final int MEN = 4;
    private static final int SLOTS = 4;
    private static final int IMAGES = 3;
    private static final int RINGS_MOST = 12;
    private static final int LINES_MOST = 30;
    private static final int CONDS_MOST = 3;
    private static final int TAPE_MOST = 600;
    private static final int ROW_MOST = 60;
    private static final int FILLS_KEPT = 40;
    private static final int UNITS_MOST = 9999;
    private static final int BEETLES_MOST = 1000000;
    private static final int ALL_BEETLES_MOST = 1000000000;
    private static final int FORETOLD_MOST = 60;
    private static final int HUNDRED = 100;

    private static final int FLOW_ALL = 0;
    private static final int FLOW_MIDDLE = 1;
    private static final int FLOW_HANGS = 2;

    private static final int BY_WARM = 0;
    private static final int BY_DAMP = 1;

    private final byte[] tape;
    private int taped;
    private final Reader reader;
    private final House house;
    private final House[] images;
    private final boolean[] kept;
    private final Row[] slots;
    private final Heap load;
    private int loadBin;
    private final Planner planner;
    private final Blender blender;
    private int refusedBar;
    private final Bin trial;

    public TallBins() {
        tape = new byte[TAPE_MOST];
        reader = new Reader(tape);
        house = new House();
        images = new House[IMAGES];
        for (int k = 0; k < IMAGES; k++) {
            images[k] = new House();
        }
        kept = new boolean[IMAGES];
        slots = new Row[SLOTS];
        for (int s = 0; s < SLOTS; s++) {
            slots[s] = new Row();
        }
        load = new Heap();
        loadBin = NONE;
        planner = new Planner();
        blender = new Blender();
        refusedBar = NONE;
        trial = new Bin();
    }

    // ---- the text ----

    public int feed(int a, int b, int c, int d, int e) {
        if (taped + 20 > TAPE_MOST) {
            return NONE;
        }
        tapeNumber(a);
        tapeNumber(b);
        tapeNumber(c);
        tapeNumber(d);
        tapeNumber(e);
        return taped;
    }

    private void tapeNumber(int n) {
        for (int shift = 24; shift >= 0 && taped < TAPE_MOST; shift -= 8) {
            tape[taped] = (byte) (n >> shift);
            taped++;
        }
    }

    public int end(int n) {
        if (n < 0 || n > taped) {
            return NONE;
        }
        taped = n;
        return n;
    }

    public int text() {
        if (house.isInUse()) {
            return BUSY;
        }
        reader.read(taped);
        taped = 0;
        if (reader.fault != 0) {
            return FAULTY;
        }
        house.tell(reader.draft);
        blender.valid = false;
        return house.rules.lines;
    }

    public int fault(int what) {
        if (what == 0) {
            return reader.fault;
        }
        return what == 1 ? reader.faultPlace : NONE;
    }

    // ---- grain that comes and goes ----

    public int fill(int bin, int grain, int lot, int units, int damp, int warm) {
        return putIn(bin, grain, lot, units, damp, warm);
    }

    // Takes longs, for a slot's numbers may be wider than an int and must not be cut to one that fits.
    private int putIn(int bin, long grain, long lot, long units, long damp, long warm) {
        if (!isTold(bin) || !isWithin(grain, 0, GRAINS - 1) || !isWithin(lot, 0, LOTS - 1)) {
            return NO_SUCH;
        }
        if (!isWithin(units, 1, UNITS_MOST) || !isWithin(damp, 0, 40) || !isWithin(warm, -30, 60)) {
            return NO_SUCH;
        }
        Bin into = house.bins[bin];
        if (into.man != NONE || (into.grain != NONE && into.grain != grain)) {
            return BUSY;
        }
        if (into.room() < units) {
            return NO_ROOM;
        }
        into.grain = (int) grain;
        int touched = into.lay((int) lot, (int) units, (int) damp, (int) warm);
        house.noteFill(bin, (int) grain, (int) lot, (int) units, touched);
        blender.valid = false;
        return into.units();
    }

    public int fills(int bin, int slot) {
        if (!isTold(bin) || !isSlot(slot)) {
            return NO_SUCH;
        }
        Row row = slots[slot];
        if (!row.isThere()) {
            return EMPTY;
        }
        int done = 0;
        for (int i = 0; i + 5 <= row.length(); i += 5) {
            int units = putIn(bin, row.at(i), row.at(i + 1), row.at(i + 2), row.at(i + 3), row.at(i + 4));
            if (units < 0) {
                break;
            }
            done++;
        }
        return done;
    }

    public int flow(int bin) {
        if (!isTold(bin)) {
            return NO_SUCH;
        }
        return house.bins[bin].isEmpty() ? EMPTY : house.flowOf(bin);
    }

    public int draw(int bin, int units) {
        if (!isTold(bin) || units < 1 || units > UNITS_MOST) {
            return NO_SUCH;
        }
        Bin from = house.bins[bin];
        if (from.isEmpty()) {
            return EMPTY;
        }
        if (from.hung || from.man != NONE) {
            return BUSY;
        }
        blender.valid = false;
        if (house.flowOf(bin) == FLOW_HANGS) {
            from.hung = true;
            return 0;
        }
        load.clear();
        loadBin = bin;
        return house.drawFrom(bin, units, load);
    }

    public int poke(int bin) {
        if (!isTold(bin)) {
            return NO_SUCH;
        }
        Bin poked = house.bins[bin];
        if (!poked.hung || poked.man != NONE) {
            return BUSY;
        }
        poked.hung = false;
        blender.valid = false;
        return house.rules.heavyOf(poked.grain) * poked.units() * poked.ringsWithUnits();
    }

    public int turn(int from, int to) {
        if (!isTold(from) || !isTold(to) || from == to) {
            return NO_SUCH;
        }
        Bin out = house.bins[from];
        Bin into = house.bins[to];
        if (out.isEmpty()) {
            return EMPTY;
        }
        int way = house.flowOf(from);
        if (out.hung || way == FLOW_HANGS || !into.isEmpty() || out.man != NONE || into.man != NONE) {
            return BUSY;
        }
        if (into.room() < out.units()) {
            return NO_ROOM;
        }
        out.turnInto(into, way);
        blender.valid = false;
        return into.units();
    }

    public int plan(int v) {
        return planner.findTurns(house, v);
    }

    public int planned(int i, int what) {
        if (i < 0 || i >= planner.told || what < 0 || what > 1) {
            return NONE;
        }
        return what == 0 ? planner.toldFrom[i] : planner.toldTo[i];
    }

    public int load(int what) {
        if (what >= 4 && what < 4 + LOTS) {
            return load.lots[what - 4];
        }
        switch (what) {
            case 0:
                return load.units;
            case 1:
                return load.dampness();
            case 2:
                return load.warmth();
            case 3:
                return loadBin;
            default:
                return NOTHING;
        }
    }

    // ---- rings and their pushes ----

    public int ring(int bin, int ring, int what) {
        if (!isRing(bin, ring)) {
            return NOTHING;
        }
        Heap heap = house.bins[bin].stack[ring];
        if (what >= 5 && what < 5 + LOTS) {
            return heap.lots[what - 5];
        }
        switch (what) {
            case 0:
                return heap.units;
            case 1:
                return heap.dampness();
            case 2:
                return heap.warmth();
            case 3:
                return heap.beetles;
            case 4:
                return heap.damp - heap.dampness() * heap.units;
            default:
                return NOTHING;
        }
    }

    public int press(int bin, int ring, boolean emptied) {
        if (!isRing(bin, ring)) {
            return NOTHING;
        }
        return house.pressAt(bin, ring, emptied);
    }

    public int wall(int bin, int ring, boolean emptied) {
        if (!isRing(bin, ring)) {
            return NOTHING;
        }
        return house.wallAt(bin, ring, emptied);
    }

    public int worst(int bin, boolean emptied) {
        if (!isTold(bin)) {
            return NO_SUCH;
        }
        if (house.bins[bin].isEmpty()) {
            return EMPTY;
        }
        int worstRing = 0;
        int most = house.wallAt(bin, 0, emptied);
        for (int r = 1; r < house.bins[bin].rings; r++) {
            int takes = house.wallAt(bin, r, emptied);
            if (takes > most) {
                most = takes;
                worstRing = r;
            }
        }
        return worstRing;
    }

    // ---- days ----

    public int day(int weather, int fans, int air) {
        if (weather < -40 || weather > 50 || !areBins(fans) || air < 0 || air > 9999) {
            return NO_SUCH;
        }
        blender.valid = false;
        return house.passDay(weather, fans, air);
    }

    public int beetles(int bin, int ring, int n) {
        if (!isRing(bin, ring) || n < 1 || n > 1000) {
            return NO_SUCH;
        }
        Heap heap = house.bins[bin].stack[ring];
        if (heap.units == 0) {
            return EMPTY;
        }
        // Heaps that fell together may have more than the most that come in.
        if (heap.beetles < BEETLES_MOST) {
            heap.beetles = Math.min(BEETLES_MOST, heap.beetles + n);
        }
        return heap.beetles;
    }

    public int mark(int bin, int what, int v) {
        if (!isTold(bin) || what < BY_WARM || what > BY_DAMP) {
            return NO_SUCH;
        }
        return house.bins[bin].lowestAt(what, v);
    }

    public int foretell(int bin, int v) {
        if (!isTold(bin)) {
            return NO_SUCH;
        }
        trial.copyFrom(house.bins[bin]);
        for (int day = 0; day <= FORETOLD_MOST; day++) {
            if (trial.lowestAt(BY_WARM, v) != NONE) {
                return day;
            }
            trial.passWarmth(house.rules, house.weather);
        }
        return NONE;
    }

    // ---- gauges ----

    public int gauge(int bin, int ring, int reading) {
        boolean isReading = reading >= Rope.LEAST && reading <= Rope.MOST;
        if (!isRing(bin, ring) || !(isReading || reading == Rope.UNTOLD)) {
            return NO_SUCH;
        }
        Rope rope = house.bins[bin].rope;
        rope.readings[ring] = reading;
        return rope.howManyTold();
    }

    public int between(int bin, int ring, int what) {
        if (!isRing(bin, ring) || what < 0 || what > 1) {
            return NOTHING;
        }
        Bin gauged = house.bins[bin];
        if (!gauged.rope.agrees(gauged.rings)) {
            return DISAGREEING;
        }
        return what == 0 ? gauged.rope.leastAt(ring) : gauged.rope.mostAt(ring);
    }

    public int nextRope(int bin) {
        if (!isTold(bin)) {
            return NO_SUCH;
        }
        Bin gauged = house.bins[bin];
        if (!gauged.rope.agrees(gauged.rings)) {
            return BUSY;
        }
        return gauged.rope.leastSure(gauged.rings);
    }

    public int lies(int bin) {
        return isTold(bin) ? house.bins[bin].beliedGauges() : NO_SUCH;
    }

    // ---- men and bars ----

    public int enter(int m, int bin) {
        if (!isMan(m) || !isTold(bin)) {
            return NO_SUCH;
        }
        if (house.binOfMan(m) != NONE || house.bins[bin].man != NONE) {
            return BUSY;
        }
        int bar = house.rules.bars.firstThatHolds(house.bins[bin]);
        if (bar != NONE) {
            refusedBar = bar;
            return BARRED;
        }
        house.bins[bin].man = m;
        return 0;
    }

    public int leave(int m) {
        if (!isMan(m)) {
            return NO_SUCH;
        }
        int bin = house.binOfMan(m);
        if (bin == NONE) {
            return BUSY;
        }
        house.bins[bin].man = NONE;
        return bin;
    }

    public int barred(int bin) {
        return isTold(bin) ? house.rules.bars.firstThatHolds(house.bins[bin]) : NO_SUCH;
    }

    public int refused() {
        return refusedBar;
    }

    // ---- blends ----

    public int blend(int grain, int n, int d) {
        if (!isWithin(grain, 0, GRAINS - 1) || n < 1 || n > 20 || d < 0 || d > 40) {
            return NO_SUCH;
        }
        return blender.findBlend(house, grain, n, d * n);
    }

    public int blended(int bin) {
        return isTold(bin) ? blender.told[bin] : NO_SUCH;
    }

    public int serve() {
        if (!blender.valid) {
            return NONE;
        }
        blender.valid = false;
        load.clear();
        loadBin = NONE;
        int came = 0;
        for (int b = 0; b < BINS; b++) {
            if (blender.told[b] > 0 && house.isOpen(b)) {
                came += house.drawFrom(b, HUNDRED * blender.told[b], load);
            }
        }
        return came;
    }

    // ---- books ----

    public int filled(int i, int what) {
        return house.ledger.at(i, what);
    }

    public int lot(int lot, int what) {
        if (lot < 0 || lot >= LOTS) {
            return NOTHING;
        }
        switch (what) {
            case 0:
                return house.lotsIn[lot];
            case 1:
                return house.unitsOfLot(lot);
            case 2:
                return house.lotsIn[lot] - house.unitsOfLot(lot);
            case 3:
                return house.binsWithLot(lot);
            default:
                return NOTHING;
        }
    }

    public int bin(int bin, int what) {
        if (!isTold(bin)) {
            return NOTHING;
        }
        Bin asked = house.bins[bin];
        switch (what) {
            case 0:
                return asked.rings;
            case 1:
                return asked.units();
            case 2:
                return asked.grain;
            case 3:
                return asked.hung ? 1 : 0;
            case 4:
                return asked.man;
            case 5:
                return asked.drawnToday;
            case 6:
                return asked.dampnessOfAll();
            case 7:
                return house.rules.priceOf(asked.grain) * asked.units();
            default:
                return NOTHING;
        }
    }

    public int count(int what) {
        switch (what) {
            case 0:
                return house.rules.lines;
            case 1:
                return house.days;
            case 2:
                return house.unitsFilled;
            case 3:
                return house.unitsDrawn;
            case 4:
                return house.dried;
            case 5:
                return house.rules.bars.bars;
            case 6:
                return taped;
            case 7:
                return house.howManyTold();
            case 8:
                return house.howManyHung();
            case 9:
                return house.allBeetles();
            case 10:
                return howManyRows();
            case 11:
                return house.weather;
            default:
                return NONE;
        }
    }

    private int howManyRows() {
        int there = 0;
        for (int s = 0; s < SLOTS; s++) {
            if (slots[s].isThere()) {
                there++;
            }
        }
        return there;
    }

    // ---- images ----

    public int keep(int k) {
        if (k < 0 || k >= IMAGES) {
            return NO_SUCH;
        }
        images[k].copyFrom(house);
        kept[k] = true;
        return 0;
    }

    public int back(int k) {
        if (k < 0 || k >= IMAGES) {
            return NO_SUCH;
        }
        if (!kept[k]) {
            return EMPTY;
        }
        house.copyFrom(images[k]);
        blender.valid = false;
        return 0;
    }

    // ---- slots ----

    public int row(int slot, int width, int n) {
        if (!isSlot(slot) || width < 0 || width > 3 || n > ROW_MOST) {
            return NO_SUCH;
        }
        if (n < 0) {
            return NEGATIVE;
        }
        slots[slot].begin(width, n);
        return 0;
    }

    public int write(int slot, int i, long v) {
        if (!isSlot(slot)) {
            return NO_SUCH;
        }
        Row row = slots[slot];
        if (!row.isThere()) {
            return EMPTY;
        }
        if (i < 0 || i >= row.length()) {
            return OUTSIDE;
        }
        row.put(i, v);
        return 0;
    }

    public int paste(int slot, int i, int to, int k, int n) {
        if (!isSlot(slot) || !isSlot(to)) {
            return NO_SUCH;
        }
        Row source = slots[slot];
        Row target = slots[to];
        if (!source.isThere() || !target.isThere()) {
            return EMPTY;
        }
        if (source.width != target.width) {
            return OTHER_WIDTH;
        }
        if (!source.hasSpan(i, n) || !target.hasSpan(k, n)) {
            return OUTSIDE;
        }
        System.arraycopy(source.numbers, i, target.numbers, k, n);
        return 0;
    }

    // ---- what there is ----

    private boolean isTold(int bin) {
        return bin >= 0 && bin < BINS && house.bins[bin].rings > 0;
    }

    // A bit of a BIN that isn't told is fine: it is a BIN all the same.
    private static boolean areBins(int bits) {
        return bits >= 0 && bits < 1 << BINS;
    }

    private boolean isRing(int bin, int ring) {
        return isTold(bin) && ring >= 0 && ring < house.bins[bin].rings;
    }

    private static boolean isSlot(int slot) {
        return slot >= 0 && slot < SLOTS;
    }

    private static boolean isMan(int m) {
        return m >= 0 && m < MEN;
    }

    private static boolean isWithin(long n, long least, long most) {
        return n >= least && n <= most;
    }

    /** UNITS that lie together: a RING, or the LOAD. */
    private static final class Heap {
        int units;
        int damp;
        int warm;
        int beetles;
        final int[] lots = new int[LOTS];

        void clear() {
            units = 0;
            damp = 0;
            warm = 0;
            beetles = 0;
            for (int l = 0; l < LOTS; l++) {
                lots[l] = 0;
            }
        }

        void copyFrom(Heap other) {
            units = other.units;
            damp = other.damp;
            warm = other.warm;
            beetles = other.beetles;
            System.arraycopy(other.lots, 0, lots, 0, LOTS);
        }

        /** Its WARM or DAMP; 0 without UNITS. */
        int level(int what) {
            int sum = what == BY_WARM ? warm : damp;
            return units > 0 ? Math.floorDiv(sum, units) : 0;
        }

        int dampness() {
            return level(BY_DAMP);
        }

        int warmth() {
            return level(BY_WARM);
        }

        void add(int lot, int n, int dampOfEach, int warmOfEach) {
            units += n;
            damp += n * dampOfEach;
            warm += n * warmOfEach;
            lots[lot] += n;
        }

        /** Gives n of its UNITS, PARTED, to another heap; share is room to reckon in. */
        void give(int n, Heap to, int[] share) {
            if (n <= 0 || n > units) {
                return;
            }
            int dampGiven = partOf(damp, n);
            int warmGiven = partOf(warm, n);
            int beetlesGiven = partOf(beetles, n);
            shareLots(n, share);
            for (int l = 0; l < LOTS; l++) {
                lots[l] -= share[l];
                to.lots[l] += share[l];
            }
            damp -= dampGiven;
            to.damp += dampGiven;
            warm -= warmGiven;
            to.warm += warmGiven;
            beetles -= beetlesGiven;
            to.beetles += beetlesGiven;
            units -= n;
            to.units += n;
        }

        // The product of a sum and UNITS may pass an int's bounds.
        private int partOf(int sum, int n) {
            return units > 0 ? (int) Math.floorDiv((long) n * sum, (long) units) : 0;
        }

        private void shareLots(int n, int[] share) {
            int lacking = n;
            for (int l = 0; l < LOTS; l++) {
                share[l] = partOf(lots[l], n);
                lacking -= share[l];
            }
            for (int i = 0; i < lacking; i++) {
                share[greatestRest(n, share)]++;
            }
        }

        // A LOT that gave a lacking unit has a rest below 0 by that, so it is not found again.
        private int greatestRest(int n, int[] share) {
            int lot = 0;
            long greatest = NONE;
            for (int l = 0; l < LOTS; l++) {
                long rest = (long) n * lots[l] - (long) share[l] * units;
                if (rest > greatest) {
                    greatest = rest;
                    lot = l;
                }
            }
            return lot;
        }
    }

    /** The GAUGES of one BIN. */
    private static final class Rope {
        static final int LEAST = -30;
        static final int MOST = 80;
        static final int UNTOLD = 99;
        static final int STEP_MOST = 4;

        final int[] readings = new int[RINGS_MOST];

        Rope() {
            clear();
        }

        void clear() {
            for (int r = 0; r < RINGS_MOST; r++) {
                readings[r] = UNTOLD;
            }
        }

        void copyFrom(Rope other) {
            System.arraycopy(other.readings, 0, readings, 0, RINGS_MOST);
        }

        int howManyTold() {
            int told = 0;
            for (int r = 0; r < RINGS_MOST; r++) {
                if (readings[r] != UNTOLD) {
                    told++;
                }
            }
            return told;
        }

        int leastAt(int ring) {
            int least = LEAST;
            for (int r = 0; r < RINGS_MOST; r++) {
                if (readings[r] != UNTOLD) {
                    least = Math.max(least, readings[r] - STEP_MOST * Math.abs(r - ring));
                }
            }
            return least;
        }

        int mostAt(int ring) {
            int most = MOST;
            for (int r = 0; r < RINGS_MOST; r++) {
                if (readings[r] != UNTOLD) {
                    most = Math.min(most, readings[r] + STEP_MOST * Math.abs(r - ring));
                }
            }
            return most;
        }

        // Two gauges too far apart leave no number at either one's own ring, so looking at each ring is enough.
        boolean agrees(int rings) {
            for (int r = 0; r < rings; r++) {
                if (leastAt(r) > mostAt(r)) {
                    return false;
                }
            }
            return true;
        }

        int leastSure(int rings) {
            int ring = NONE;
            int widest = 0;
            for (int r = 0; r < rings; r++) {
                int wide = mostAt(r) - leastAt(r);
                if (wide > widest) {
                    widest = wide;
                    ring = r;
                }
            }
            return ring;
        }
    }

    /** A BIN: how it was told (no rings: it was not), and what lies in it. */
    private static final class Bin {
        int rings;
        int hold;
        int mouth;
        int rough;
        int grain = NONE;
        boolean hung;
        int man = NONE;
        int drawnToday;
        final Heap[] stack = new Heap[RINGS_MOST];
        final Rope rope = new Rope();
        private final int[] share = new int[LOTS];

        Bin() {
            for (int r = 0; r < RINGS_MOST; r++) {
                stack[r] = new Heap();
            }
        }

        void copyFrom(Bin other) {
            rings = other.rings;
            hold = other.hold;
            mouth = other.mouth;
            rough = other.rough;
            grain = other.grain;
            hung = other.hung;
            man = other.man;
            drawnToday = other.drawnToday;
            for (int r = 0; r < RINGS_MOST; r++) {
                stack[r].copyFrom(other.stack[r]);
            }
            rope.copyFrom(other.rope);
        }

        boolean isEmpty() {
            return grain == NONE;
        }

        int units() {
            int units = 0;
            for (int r = 0; r < rings; r++) {
                units += stack[r].units;
            }
            return units;
        }

        int ringsWithUnits() {
            int there = 0;
            for (int r = 0; r < rings; r++) {
                if (stack[r].units > 0) {
                    there++;
                }
            }
            return there;
        }

        int room() {
            return rings * hold - units();
        }

        int dampnessOfAll() {
            int damp = 0;
            for (int r = 0; r < rings; r++) {
                damp += stack[r].damp;
            }
            int units = units();
            return units > 0 ? Math.floorDiv(damp, units) : 0;
        }

        int allBeetles() {
            int beetles = 0;
            for (int r = 0; r < rings; r++) {
                beetles += stack[r].beetles;
            }
            return beetles;
        }

        int unitsOfLot(int lot) {
            int units = 0;
            for (int r = 0; r < rings; r++) {
                units += stack[r].lots[lot];
            }
            return units;
        }

        /** The greatest WARM or DAMP of a RING with UNITS; -99 without one. */
        int greatest(int what) {
            boolean found = false;
            int greatest = -99;
            for (int r = 0; r < rings; r++) {
                if (stack[r].units > 0 && (!found || stack[r].level(what) > greatest)) {
                    found = true;
                    greatest = stack[r].level(what);
                }
            }
            return greatest;
        }

        /** The lowest RING with UNITS that is WARM or DAMP at v or above. */
        int lowestAt(int what, int v) {
            for (int r = 0; r < rings; r++) {
                if (stack[r].units > 0 && stack[r].level(what) >= v) {
                    return r;
                }
            }
            return NONE;
        }

        /** Lays a fill that has room; how many RINGS it came into. */
        int lay(int lot, int units, int damp, int warm) {
            int left = units;
            int touched = 0;
            for (int r = 0; r < rings && left > 0; r++) {
                int here = Math.min(left, hold - stack[r].units);
                if (here > 0) {
                    stack[r].add(lot, here, damp, warm);
                    left -= here;
                    touched++;
                }
            }
            return touched;
        }

        /** Moves so many UNITS (or all it has) to a heap, by a way that does not hang; how many came. */
        int pull(int units, int way, Heap into) {
            int left = units;
            for (int i = 0; i < rings && left > 0; i++) {
                Heap from = stack[placeInTurn(i, way)];
                int here = Math.min(left, from.units);
                from.give(here, into, share);
                left -= here;
            }
            if (way == FLOW_ALL) {
                settle();
            }
            if (ringsWithUnits() == 0) {
                grain = NONE;
            }
            return units - left;
        }

        /** The RING from which UNITS come as the i-th one. */
        private int placeInTurn(int i, int way) {
            return way == FLOW_MIDDLE ? rings - 1 - i : i;
        }

        private void settle() {
            for (int r = 0; r < rings; r++) {
                for (int above = r + 1; above < rings; above++) {
                    Heap from = stack[above];
                    from.give(Math.min(from.units, hold - stack[r].units), stack[r], share);
                }
            }
        }

        /** Turns all its grain over into an empty BIN that has room for it. */
        void turnInto(Bin to, int way) {
            for (int i = 0; i < rings; i++) {
                Heap from = stack[placeInTurn(i, way)];
                for (int r = 0; r < to.rings; r++) {
                    from.give(Math.min(from.units, to.hold - to.stack[r].units), to.stack[r], share);
                }
            }
            for (int r = 0; r < to.rings; r++) {
                to.stack[r].warm -= 3 * to.stack[r].units;
            }
            to.grain = grain;
            grain = NONE;
        }

        /** What presses a RING; hard: its wall takes the 14 tenths of a BIN that is emptied. */
        int pressAt(int ring, int heavy, boolean hard) {
            int press = 0;
            int passed = 0;
            for (int r = rings - 1; r >= ring; r--) {
                press = heavy * stack[r].units + passed;
                passed = press - wallOf(press, hard);
            }
            return press;
        }

        int wallOf(int press, boolean hard) {
            int takes = press * rough / 100;
            return hard ? Math.min(press, takes * 14 / 10) : takes;
        }

        /** Steps (1) to (3) of a DAY. */
        void passWarmth(Rules rules, int weather) {
            for (int r = 0; r < rings; r++) {
                Heap heap = stack[r];
                heap.warm += heap.units * rules.breathOf(heap);
            }
            for (int r = 0; r + 1 < rings; r++) {
                spread(stack[r], stack[r + 1]);
            }
            for (int r = 0; r < rings; r++) {
                Heap heap = stack[r];
                heap.warm += heap.units * Integer.compare(weather, heap.warmth());
            }
        }

        private static void spread(Heap own, Heap next) {
            if (own.units > 0 && next.units > 0) {
                int over = (next.warmth() - own.warmth()) / 4 * Math.min(own.units, next.units);
                own.warm += over;
                next.warm -= over;
            }
        }

        int dry(int air) {
            int left = air;
            for (int r = 0; r < rings; r++) {
                Heap heap = stack[r];
                int given = Math.min(left, Math.max(0, heap.damp - 12 * heap.units));
                heap.damp -= given;
                left -= given;
            }
            return air - left;
        }

        void breed() {
            for (int r = 0; r < rings; r++) {
                Heap heap = stack[r];
                if (heap.units > 0) {
                    heap.beetles = Math.min(BEETLES_MOST, bred(heap.beetles, heap.warmth()));
                }
            }
        }

        private static int bred(int beetles, int warmth) {
            if (warmth < 5 || warmth > 45) {
                return beetles / 2;
            }
            if (warmth >= 15 && warmth <= 24) {
                return beetles + beetles / 4;
            }
            return warmth >= 25 && warmth <= 35 ? beetles * 2 : beetles;
        }

        /** GAUGES that the grain belies, as bits. */
        int beliedGauges() {
            int bits = 0;
            for (int r = 0; r < rings; r++) {
                int reading = rope.readings[r];
                boolean near = stack[r].units > 0 && Math.abs(stack[r].warmth() - reading) <= 2;
                if (reading != Rope.UNTOLD && !near) {
                    bits |= 1 << r;
                }
            }
            return bits;
        }
    }

    /** The BARS of a TEXT: their CONDS lie one behind the other. */
    private static final class Bars {
        static final int HOT = 0;
        static final int WET = 1;
        static final int UNITS = 2;
        static final int BEETLES = 3;
        static final int HUNG = 4;
        static final int DRAWN = 5;

        int bars;
        int conds;
        final int[] ends = new int[LINES_MOST];
        final int[] words = new int[LINES_MOST * CONDS_MOST];
        final boolean[] nots = new boolean[LINES_MOST * CONDS_MOST];
        final int[] signs = new int[LINES_MOST * CONDS_MOST];
        final int[] numbers = new int[LINES_MOST * CONDS_MOST];

        void clear() {
            bars = 0;
            conds = 0;
        }

        void copyFrom(Bars other) {
            bars = other.bars;
            conds = other.conds;
            System.arraycopy(other.ends, 0, ends, 0, bars);
            System.arraycopy(other.words, 0, words, 0, conds);
            System.arraycopy(other.nots, 0, nots, 0, conds);
            System.arraycopy(other.signs, 0, signs, 0, conds);
            System.arraycopy(other.numbers, 0, numbers, 0, conds);
        }

        void addCond(boolean not, int word, int sign, int number) {
            if (conds < words.length) {
                nots[conds] = not;
                words[conds] = word;
                signs[conds] = sign;
                numbers[conds] = number;
                conds++;
            }
        }

        /** The CONDS since the last BAR are one BAR more. */
        void close() {
            if (bars < LINES_MOST) {
                ends[bars] = conds;
                bars++;
            }
        }

        int firstThatHolds(Bin bin) {
            int first = 0;
            for (int bar = 0; bar < bars; bar++) {
                if (allHold(first, ends[bar], bin)) {
                    return bar;
                }
                first = ends[bar];
            }
            return NONE;
        }

        private boolean allHold(int first, int end, Bin bin) {
            for (int c = first; c < end; c++) {
                if (isTrue(c, bin) == nots[c]) {
                    return false;
                }
            }
            return true;
        }

        private boolean isTrue(int cond, Bin bin) {
            int word = words[cond];
            if (word == HUNG) {
                return bin.hung;
            }
            if (word == DRAWN) {
                return bin.drawnToday > 0;
            }
            int value = valueOf(word, bin);
            return signs[cond] == '<' ? value < numbers[cond] : value > numbers[cond];
        }

        private static int valueOf(int word, Bin bin) {
            switch (word) {
                case HOT:
                    return bin.greatest(BY_WARM);
                case WET:
                    return bin.greatest(BY_DAMP);
                case UNITS:
                    return bin.units();
                default:
                    return bin.allBeetles();
            }
        }
    }

    /** What a TEXT tells. */
    private static final class Rules {
        int lines;
        int binsTold;
        int grainsTold;
        final int[] rings = new int[BINS];
        final int[] holds = new int[BINS];
        final int[] mouths = new int[BINS];
        final int[] roughs = new int[BINS];
        final int[] heavies = new int[GRAINS];
        final int[] grips = new int[GRAINS];
        final int[] prices = new int[GRAINS];
        int breaths;
        final int[] breathWarm = new int[LINES_MOST];
        final int[] breathDamp = new int[LINES_MOST];
        final int[] breathAdd = new int[LINES_MOST];
        final Bars bars = new Bars();

        Rules() {
            clear();
        }

        void clear() {
            lines = 0;
            binsTold = 0;
            grainsTold = 0;
            breaths = 0;
            for (int b = 0; b < BINS; b++) {
                rings[b] = 0;
                holds[b] = 0;
                mouths[b] = 0;
                roughs[b] = 0;
            }
            for (int g = 0; g < GRAINS; g++) {
                heavies[g] = 10;
                grips[g] = 10;
                prices[g] = 100;
            }
            bars.clear();
        }

        void copyFrom(Rules other) {
            lines = other.lines;
            binsTold = other.binsTold;
            grainsTold = other.grainsTold;
            breaths = other.breaths;
            System.arraycopy(other.rings, 0, rings, 0, BINS);
            System.arraycopy(other.holds, 0, holds, 0, BINS);
            System.arraycopy(other.mouths, 0, mouths, 0, BINS);
            System.arraycopy(other.roughs, 0, roughs, 0, BINS);
            System.arraycopy(other.heavies, 0, heavies, 0, GRAINS);
            System.arraycopy(other.grips, 0, grips, 0, GRAINS);
            System.arraycopy(other.prices, 0, prices, 0, GRAINS);
            System.arraycopy(other.breathWarm, 0, breathWarm, 0, LINES_MOST);
            System.arraycopy(other.breathDamp, 0, breathDamp, 0, LINES_MOST);
            System.arraycopy(other.breathAdd, 0, breathAdd, 0, LINES_MOST);
            bars.copyFrom(other.bars);
        }

        void addBreath(int warm, int damp, int add) {
            if (breaths < LINES_MOST) {
                breathWarm[breaths] = warm;
                breathDamp[breaths] = damp;
                breathAdd[breaths] = add;
                breaths++;
            }
        }

        /** The greatest "add" of the BREATHS that hold for a RING. */
        int breathOf(Heap heap) {
            int warm = heap.warmth();
            int damp = heap.dampness();
            int add = 0;
            for (int i = 0; i < breaths; i++) {
                if (warm >= breathWarm[i] && damp >= breathDamp[i]) {
                    add = Math.max(add, breathAdd[i]);
                }
            }
            return add;
        }

        int heavyOf(int grain) {
            return grain >= 0 && grain < GRAINS ? heavies[grain] : 0;
        }

        int gripOf(int grain) {
            return grain >= 0 && grain < GRAINS ? grips[grain] : 0;
        }

        int priceOf(int grain) {
            return grain >= 0 && grain < GRAINS ? prices[grain] : 0;
        }
    }

    /** Reads the TAPE into a draft; once a FAULT is found, no step takes a TOKEN any more. */
    private static final class Reader {
        private static final int END = 0;
        private static final int WORD = 1;
        private static final int NUMBER = 2;
        private static final int SIGN = 3;
        private static final int ODD = 4;

        private static final int OUT_OF_PLACE = 1;
        private static final int OUT_OF_BOUNDS = 2;
        private static final int TOO_MANY = 3;

        private static final int OTHERS_MOST = 9999;
        private static final int BEYOND_ALL = 100000;

        final Rules draft = new Rules();
        int fault;
        int faultPlace = NONE;
        private final byte[] bytes;
        private int length;
        private int kind;
        private int value;
        private int place;
        private int next;

        Reader(byte[] tape) {
            bytes = tape;
        }

        void read(int taped) {
            draft.clear();
            fault = 0;
            faultPlace = NONE;
            length = Math.min(taped, bytes.length);
            next = 0;
            advance();
            for (int line = 0; line <= LINES_MOST && kind != END && fault == 0; line++) {
                readLine(line);
            }
        }

        private void readLine(int line) {
            boolean isBin = isWord("bin");
            boolean isGrain = isWord("grain");
            boolean isBreath = isWord("breath");
            if (!isBin && !isGrain && !isBreath && !isWord("bar")) {
                fail(OUT_OF_PLACE);
                return;
            }
            if (line >= LINES_MOST) {
                fail(TOO_MANY);
                return;
            }
            advance();
            if (isBin) {
                readBin();
            } else if (isGrain) {
                readGrain();
            } else if (isBreath) {
                readBreath();
            } else {
                readBar();
            }
            takeSign(';');
            draft.lines++;
        }

        private void readBin() {
            int bin = takeFresh(BINS - 1, draft.binsTold);
            draft.binsTold |= 1 << bin;
            draft.rings[bin] = takeNamed("rings", 1, RINGS_MOST);
            draft.holds[bin] = takeNamed("hold", 1, 1000);
            draft.mouths[bin] = takeNamed("mouth", 1, 99);
            draft.roughs[bin] = takeNamed("rough", 0, 90);
        }

        private void readGrain() {
            int grain = takeFresh(GRAINS - 1, draft.grainsTold);
            draft.grainsTold |= 1 << grain;
            draft.heavies[grain] = takeNamed("heavy", 1, 50);
            draft.grips[grain] = takeNamed("grip", 0, 99);
            draft.prices[grain] = takeNamed("price", 0, 999);
        }

        private void readBreath() {
            int warm = takeNamed("warm", 0, OTHERS_MOST);
            int damp = takeNamed("damp", 0, OTHERS_MOST);
            draft.addBreath(warm, damp, takeNamed("add", 0, 9));
        }

        private void readBar() {
            readCond();
            for (int cond = 1; cond <= CONDS_MOST && fault == 0 && isWord("and"); cond++) {
                advance();
                if (cond == CONDS_MOST) {
                    fail(isWord("not") || condWord() != NONE ? TOO_MANY : OUT_OF_PLACE);
                } else {
                    readCond();
                }
            }
            draft.bars.close();
        }

        private void readCond() {
            boolean not = isWord("not");
            if (not) {
                advance();
            }
            int word = condWord();
            if (word == NONE) {
                fail(OUT_OF_PLACE);
                return;
            }
            advance();
            if (word == Bars.HUNG || word == Bars.DRAWN) {
                draft.bars.addCond(not, word, 0, 0);
                return;
            }
            int sign = value;
            takeSign(sign == '<' ? '<' : '>');
            draft.bars.addCond(not, word, sign, takeNumber(0, OTHERS_MOST));
        }

        private int condWord() {
            if (isWord("hot")) {
                return Bars.HOT;
            }
            if (isWord("wet")) {
                return Bars.WET;
            }
            if (isWord("units")) {
                return Bars.UNITS;
            }
            if (isWord("beetles")) {
                return Bars.BEETLES;
            }
            if (isWord("hung")) {
                return Bars.HUNG;
            }
            return isWord("drawn") ? Bars.DRAWN : NONE;
        }

        /** A number from 0 on that is not one of those told. */
        private int takeFresh(int most, int told) {
            if (kind == NUMBER && value <= most && (told >> value & 1) == 1) {
                fail(OUT_OF_BOUNDS);
            }
            return takeNumber(0, most);
        }

        private int takeNamed(String word, int least, int most) {
            if (fault == 0) {
                if (isWord(word)) {
                    advance();
                } else {
                    fail(OUT_OF_PLACE);
                }
            }
            return takeNumber(least, most);
        }

        private int takeNumber(int least, int most) {
            if (fault != 0) {
                return 0;
            }
            if (kind != NUMBER) {
                fail(OUT_OF_PLACE);
                return 0;
            }
            if (value < least || value > most) {
                fail(OUT_OF_BOUNDS);
                return 0;
            }
            int number = value;
            advance();
            return number;
        }

        private void takeSign(int sign) {
            if (fault != 0) {
                return;
            }
            if (kind == SIGN && value == sign) {
                advance();
            } else {
                fail(OUT_OF_PLACE);
            }
        }

        private void fail(int which) {
            if (fault == 0) {
                fault = which;
                faultPlace = place;
            }
        }

        private void advance() {
            place = next;
            while (place < length && isBlank(bytes[place])) {
                place++;
            }
            next = place;
            value = 0;
            if (place >= length) {
                kind = END;
            } else if (isLetter(bytes[place])) {
                kind = WORD;
                while (next < length && isLetter(bytes[next])) {
                    next++;
                }
            } else if (isDigit(bytes[place])) {
                kind = NUMBER;
                while (next < length && isDigit(bytes[next])) {
                    value = Math.min(BEYOND_ALL, value * 10 + (bytes[next] - '0'));
                    next++;
                }
            } else {
                value = bytes[place];
                kind = value == '<' || value == '>' || value == ';' ? SIGN : ODD;
                next++;
            }
        }

        private boolean isWord(String word) {
            if (kind != WORD || next - place != word.length()) {
                return false;
            }
            for (int i = 0; i < word.length(); i++) {
                if (bytes[place + i] != word.charAt(i)) {
                    return false;
                }
            }
            return true;
        }

        private static boolean isBlank(int sign) {
            return sign == 32 || sign == 10;
        }

        private static boolean isLetter(int sign) {
            return sign >= 'a' && sign <= 'z';
        }

        private static boolean isDigit(int sign) {
            return sign >= '0' && sign <= '9';
        }
    }

    /** The latest fills, in rows of six numbers; the oldest one gives way. */
    private static final class Ledger {
        static final int COLUMNS = 6;

        private int noted;
        private int oldest;
        private final int[] numbers = new int[FILLS_KEPT * COLUMNS];

        void copyFrom(Ledger other) {
            noted = other.noted;
            oldest = other.oldest;
            System.arraycopy(other.numbers, 0, numbers, 0, FILLS_KEPT * COLUMNS);
        }

        void note(int bin, int grain, int lot, int units, int day, int touched) {
            int row = placeOf(noted);
            if (noted < FILLS_KEPT) {
                noted++;
            } else {
                oldest = (oldest + 1) % FILLS_KEPT;
            }
            numbers[row] = bin;
            numbers[row + 1] = grain;
            numbers[row + 2] = lot;
            numbers[row + 3] = units;
            numbers[row + 4] = day;
            numbers[row + 5] = touched;
        }

        int at(int i, int what) {
            if (i < 0 || i >= noted || what < 0 || what >= COLUMNS) {
                return NOTHING;
            }
            return numbers[placeOf(i) + what];
        }

        private int placeOf(int i) {
            return (oldest + i) % FILLS_KEPT * COLUMNS;
        }
    }

    /** All that an IMAGE keeps. */
    private static final class House {
        final Rules rules = new Rules();
        final Bin[] bins = new Bin[BINS];
        final Ledger ledger = new Ledger();
        final int[] lotsIn = new int[LOTS];
        int days;
        int weather = 10;
        int unitsFilled;
        int unitsDrawn;
        int dried;

        House() {
            for (int b = 0; b < BINS; b++) {
                bins[b] = new Bin();
            }
        }

        void copyFrom(House other) {
            rules.copyFrom(other.rules);
            for (int b = 0; b < BINS; b++) {
                bins[b].copyFrom(other.bins[b]);
            }
            ledger.copyFrom(other.ledger);
            System.arraycopy(other.lotsIn, 0, lotsIn, 0, LOTS);
            days = other.days;
            weather = other.weather;
            unitsFilled = other.unitsFilled;
            unitsDrawn = other.unitsDrawn;
            dried = other.dried;
        }

        boolean isInUse() {
            for (int b = 0; b < BINS; b++) {
                if (!bins[b].isEmpty() || bins[b].man != NONE) {
                    return true;
                }
            }
            return false;
        }

        // What was drawn today stays: a new TEXT does not end the DAY.
        void tell(Rules told) {
            rules.copyFrom(told);
            for (int b = 0; b < BINS; b++) {
                bins[b].rings = told.rings[b];
                bins[b].hold = told.holds[b];
                bins[b].mouth = told.mouths[b];
                bins[b].rough = told.roughs[b];
                bins[b].rope.clear();
            }
        }

        void noteFill(int bin, int grain, int lot, int units, int touched) {
            ledger.note(bin, grain, lot, units, days, touched);
            lotsIn[lot] += units;
            unitsFilled += units;
        }

        int flowOf(int bin) {
            Bin asked = bins[bin];
            int grip = rules.gripOf(asked.grain) + 2 * Math.max(0, asked.stack[0].dampness() - 14);
            if (grip > 3 * asked.mouth) {
                return FLOW_HANGS;
            }
            return grip > asked.mouth ? FLOW_MIDDLE : FLOW_ALL;
        }

        /** Whether grain would come if it were drawn. */
        boolean isOpen(int bin) {
            Bin asked = bins[bin];
            return !asked.isEmpty() && !asked.hung && asked.man == NONE && flowOf(bin) != FLOW_HANGS;
        }

        /** Draws UNITS from an open BIN to a heap, beside what is there. */
        int drawFrom(int bin, int units, Heap into) {
            int came = bins[bin].pull(units, flowOf(bin), into);
            bins[bin].drawnToday += came;
            unitsDrawn += came;
            return came;
        }

        int pressAt(int bin, int ring, boolean emptied) {
            Bin asked = bins[bin];
            return asked.pressAt(ring, rules.heavyOf(asked.grain), isHard(bin, emptied));
        }

        int wallAt(int bin, int ring, boolean emptied) {
            return bins[bin].wallOf(pressAt(bin, ring, emptied), isHard(bin, emptied));
        }

        private boolean isHard(int bin, boolean emptied) {
            return emptied && flowOf(bin) == FLOW_ALL;
        }

        int passDay(int newWeather, int fans, int air) {
            weather = newWeather;
            int given = 0;
            for (int b = 0; b < BINS; b++) {
                bins[b].passWarmth(rules, weather);
                if ((fans >> b & 1) == 1) {
                    given += bins[b].dry(air);
                }
                bins[b].breed();
                bins[b].drawnToday = 0;
            }
            days++;
            dried += given;
            return given;
        }

        int binOfMan(int m) {
            for (int b = 0; b < BINS; b++) {
                if (bins[b].man == m) {
                    return b;
                }
            }
            return NONE;
        }

        int unitsOfLot(int lot) {
            int units = 0;
            for (int b = 0; b < BINS; b++) {
                units += bins[b].unitsOfLot(lot);
            }
            return units;
        }

        int binsWithLot(int lot) {
            int bits = 0;
            for (int b = 0; b < BINS; b++) {
                if (bins[b].unitsOfLot(lot) > 0) {
                    bits |= 1 << b;
                }
            }
            return bits;
        }

        int howManyTold() {
            int told = 0;
            for (int b = 0; b < BINS; b++) {
                if (bins[b].rings > 0) {
                    told++;
                }
            }
            return told;
        }

        int howManyHung() {
            int hung = 0;
            for (int b = 0; b < BINS; b++) {
                if (bins[b].hung) {
                    hung++;
                }
            }
            return hung;
        }

        int allBeetles() {
            int beetles = 0;
            for (int b = 0; b < BINS; b++) {
                beetles += bins[b].allBeetles();
            }
            return Math.min(ALL_BEETLES_MOST, beetles);
        }
    }

    /** Looks for TURNS, the first row of them by numbers, and keeps those told latest. */
    private static final class Planner {
        int told;
        final int[] toldFrom = new int[BINS];
        final int[] toldTo = new int[BINS];
        private int wanted;
        private final boolean[] due = new boolean[BINS];
        private final int[] units = new int[BINS];
        private final int[] rooms = new int[BINS];
        private final int[] from = new int[BINS];
        private final int[] to = new int[BINS];

        int findTurns(House house, int v) {
            if (!lookAtBins(house, v) || !turnsFrom(this, 0)) {
                return NONE;
            }
            told = wanted;
            System.arraycopy(from, 0, toldFrom, 0, BINS);
            System.arraycopy(to, 0, toldTo, 0, BINS);
            return told;
        }

        /** False: a BIN that is due can't be turned over as it stands. */
        private boolean lookAtBins(House house, int v) {
            wanted = 0;
            for (int b = 0; b < BINS; b++) {
                Bin bin = house.bins[b];
                units[b] = bin.units();
                // No grain ever comes where a man stands.
                rooms[b] = bin.man == NONE ? bin.rings * bin.hold : 0;
                due[b] = bin.lowestAt(BY_WARM, v) != NONE;
                if (due[b]) {
                    if (!house.isOpen(b)) {
                        return false;
                    }
                    wanted++;
                }
            }
            return true;
        }

        private static boolean turnsFrom(Planner p, int step) {
            if (step >= p.wanted || step >= BINS) {
                return true;
            }
            for (int f = 0; f < BINS; f++) {
                for (int t = 0; t < BINS; t++) {
                    if (p.due[f] && p.units[t] == 0 && p.rooms[t] >= p.units[f]) {
                        p.move(step, f, t);
                        if (turnsFrom(p, step + 1)) {
                            return true;
                        }
                        p.unmove(f, t);
                    }
                }
            }
            return false;
        }

        private void move(int step, int f, int t) {
            from[step] = f;
            to[step] = t;
            due[f] = false;
            units[t] = units[f];
            units[f] = 0;
        }

        private void unmove(int f, int t) {
            due[f] = true;
            units[f] = units[t];
            units[t] = 0;
        }
    }

    /** Looks for a BLEND and keeps the one told latest. */
    private static final class Blender {
        boolean valid;
        final int[] told = new int[BINS];
        private final int[] most = new int[BINS];
        private final int[] damps = new int[BINS];
        private final int[] tried = new int[BINS];
        private final int[] found = new int[BINS];
        private int dampMost;
        private int best;

        int findBlend(House house, int grain, int n, int dampAllowed) {
            for (int b = 0; b < BINS; b++) {
                Bin bin = house.bins[b];
                most[b] = bin.grain == grain ? Math.min(5, bin.units() / HUNDRED) : 0;
                damps[b] = bin.dampnessOfAll();
                tried[b] = 0;
            }
            dampMost = dampAllowed;
            best = NONE;
            tryFrom(this, 0, n, 0);
            if (best != NONE) {
                System.arraycopy(found, 0, told, 0, BINS);
                valid = true;
            }
            return best;
        }

        // Tries the fewest from each BIN first, so of several as DAMP the one found first is the one to tell.
        private static void tryFrom(Blender x, int bin, int left, int damp) {
            if (left == 0) {
                x.weigh(bin, damp);
                return;
            }
            if (bin >= BINS || !x.mayImprove(bin, left, damp)) {
                return;
            }
            for (int k = 0; k <= x.most[bin] && k <= left; k++) {
                x.tried[bin] = k;
                tryFrom(x, bin + 1, left - k, damp + k * x.damps[bin]);
            }
        }

        private void weigh(int end, int damp) {
            if (damp > best && damp <= dampMost) {
                best = damp;
                for (int b = 0; b < BINS; b++) {
                    found[b] = b < end ? tried[b] : 0;
                }
            }
        }

        // Without this the search would go through thousands of rows for six full bins.
        private boolean mayImprove(int bin, int left, int damp) {
            int hundreds = 0;
            int dampest = 0;
            int driest = 40;
            for (int b = bin; b < BINS; b++) {
                if (most[b] > 0) {
                    hundreds += most[b];
                    dampest = Math.max(dampest, damps[b]);
                    driest = Math.min(driest, damps[b]);
                }
            }
            return hundreds >= left && damp + left * driest <= dampMost && damp + left * dampest > best;
        }
    }

    /** A SLOT: a row of numbers of one WIDTH, or nothing. */
    private static final class Row {
        int width;
        private int length = NONE;
        final long[] numbers = new long[ROW_MOST];

        boolean isThere() {
            return length != NONE;
        }

        int length() {
            return length;
        }

        void begin(int newWidth, int n) {
            width = newWidth;
            length = n;
            for (int i = 0; i < ROW_MOST; i++) {
                numbers[i] = 0;
            }
        }

        long at(int i) {
            return i >= 0 && i < ROW_MOST ? numbers[i] : 0;
        }

        void put(int i, long v) {
            switch (width) {
                case 0:
                    numbers[i] = (byte) v;
                    break;
                case 1:
                    numbers[i] = (short) v;
                    break;
                case 2:
                    numbers[i] = (int) v;
                    break;
                default:
                    numbers[i] = v;
                    break;
            }
        }

        /** Whether n numbers from i on are in the row; written so that no sum passes an int's bounds. */
        boolean hasSpan(int i, int n) {
            return i >= 0 && n >= 0 && i <= length && n <= length - i;
        }
    }
}
