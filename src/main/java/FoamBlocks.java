import java.util.Arrays;
import java.util.NoSuchElementException;

/** Foam poured on a belt, cut to blocks, cooled in places, and cut to pieces for orders. */
public final class FoamBlocks {
    public static final int NONE = -1;

    /** What a run answers for its kind and lot if it is mixed, and a place if it is free. */
    private static final int NO_ONE = -2;

    private static final int FINE = 0;
    private static final int NONE_SUCH = 1;
    private static final int BAD_NUMBER = 2;
    private static final int NO_ROOM = 3;
    private static final int NOT_SO = 4;
    private static final int NOT_ENOUGH = 5;

    private static final int KINDS = 5;
    private static final int LENGTHS = 6;
    private static final int BLOCKS = 200;
    private static final int PLACES = 24;
    private static final int ORDERS = 40;
    private static final int RUNS = 60;
    private static final int LAST_HOUR = 3000;
    private static final int LONGEST_BELT = 2000;
    private static final int LONGEST_SIDE = 60;

    private final Kinds kinds;
    private final Lengths lengths;
    private final CutPlan plan;
    private final Belt belt;
    private final Yard yard;
    private final End end;
    private final Orders orders;
    private int offcuts;
    private int trouble;

    public FoamBlocks() {
        kinds = new Kinds();
        plan = new CutPlan();
        lengths = plan.lengths;
        belt = new Belt();
        yard = new Yard();
        end = new End();
        orders = new Orders();
        offcuts = 0;
        trouble = FINE;
    }

    public int kind(int heat, int cool) {
        if (!within(heat, 40, 180) || !within(cool, 1, 20)) {
            return refused(BAD_NUMBER);
        }
        if (kinds.used >= KINDS) {
            return refused(NO_ROOM);
        }
        return answered(kinds.add(heat, cool));
    }

    public boolean change(int from, int to, int v) {
        if (!kinds.has(from) || !kinds.has(to) || from == to) {
            return denied(NONE_SUCH);
        }
        if (!within(v, 0, 60)) {
            return denied(BAD_NUMBER);
        }
        kinds.setMixed(from, to, v);
        return granted();
    }

    public int length(int v) {
        if (!within(v, 5, 80)) {
            return refused(BAD_NUMBER);
        }
        if (lengths.isTold(v)) {
            return refused(NOT_SO);
        }
        if (lengths.used >= LENGTHS) {
            return refused(NO_ROOM);
        }
        return answered(lengths.add(v));
    }

    public boolean worth(int length, int kind, int v) {
        if (!lengths.has(length) || !kinds.has(kind)) {
            return denied(NONE_SUCH);
        }
        if (!within(v, 0, 999)) {
            return denied(BAD_NUMBER);
        }
        lengths.setWorth(length, kind, v);
        return granted();
    }

    public boolean size(int wide, int high) {
        if (!isEnd(wide, high)) {
            return denied(BAD_NUMBER);
        }
        if (yard.used > 0) {
            return denied(NOT_SO);
        }
        end.wide = wide;
        end.high = high;
        return granted();
    }

    public int pour(int kind, int v) {
        if (!kinds.has(kind)) {
            return refused(NONE_SUCH);
        }
        if (!within(v, 1, 400)) {
            return refused(BAD_NUMBER);
        }
        int mixed = mixedAhead(kind);
        if (!belt.hasRoom(kind, mixed, v)) {
            return refused(NO_ROOM);
        }
        belt.append(kind, mixed, v);
        return answered(belt.total);
    }

    public int run(int i, int what) {
        if (!belt.has(i)) {
            return NONE;
        }
        switch (what) {
            case 0:
                return belt.kinds[i];
            case 1:
                return belt.tenths[i];
            case 2:
                return belt.lotOf[i];
            default:
                return NONE;
        }
    }

    public int best(int kind, int v) {
        if (!kinds.has(kind)) {
            return refused(NONE_SUCH);
        }
        if (!within(v, 0, LONGEST_BELT)) {
            return refused(BAD_NUMBER);
        }
        return answered(plan.mostWorth(kind, v));
    }

    public int cut() {
        if (belt.used == 0) {
            return refused(NOT_SO);
        }
        int kind = belt.kinds[0];
        int left = belt.tenths[0];
        int made = 0;
        if (kind != NO_ONE) {
            if (!plan.make(kind, left, BLOCKS - yard.used)) {
                return refused(NO_ROOM);
            }
            addPlanned(kind, belt.lotOf[0]);
            left = plan.left;
            made = plan.used;
        }
        offcuts += left * end.area() / 100;
        belt.dropFirst();
        return answered(made);
    }

    public int block(int i, int what) {
        if (!yard.has(i)) {
            return NONE;
        }
        switch (what) {
            case 0:
                return yard.state(i);
            case 1:
                return yard.kinds[i];
            case 2:
                return yard.tenths[i];
            case 3:
                return yard.lots[i];
            case 4:
                return yard.core(i);
            case 5:
                return yard.isCured(i) ? 1 : 0;
            case 6:
                return yard.placeOf[i];
            case 7:
                return yard.hours[i];
            default:
                return NONE;
        }
    }

    public int lay() {
        return yard.layAll();
    }

    public int place(int p) {
        return within(p, 0, PLACES - 1) ? yard.inPlace[p] : NONE;
    }

    public boolean lift(int block) {
        if (!yard.has(block)) {
            return denied(NONE_SUCH);
        }
        if (yard.placeOf[block] == NONE) {
            return denied(NOT_SO);
        }
        yard.takeOut(block);
        return granted();
    }

    public int pass(int hours) {
        if (!within(hours, 1, 100) || yard.now + hours > LAST_HOUR) {
            return refused(BAD_NUMBER);
        }
        yard.goOn(hours);
        return answered(yard.now);
    }

    public int pieces(int w, int h) {
        if (!isEnd(w, h)) {
            return refused(BAD_NUMBER);
        }
        return answered(end.mostPieces(w, h));
    }

    public int order(int kind, int length, int w, int h, int many) {
        if (!kinds.has(kind) || !lengths.has(length)) {
            return refused(NONE_SUCH);
        }
        if (!isEnd(w, h) || !within(many, 1, 500)) {
            return refused(BAD_NUMBER);
        }
        if (orders.used >= ORDERS) {
            return refused(NO_ROOM);
        }
        return answered(orders.add(kind, lengths.tenths[length], w, h, many));
    }

    public int fill(int order) {
        if (!orders.has(order)) {
            return refused(NONE_SUCH);
        }
        if (orders.isFilled(order)) {
            return refused(NOT_SO);
        }
        int each = end.mostPieces(orders.wide[order], orders.high[order]);
        int cured = yard.curedOf(orders.kinds[order], orders.tenths[order]);
        if (cured * each < orders.many[order]) {
            return refused(NOT_ENOUGH);
        }
        takeBlocks(order, each);
        return answered(orders.takenBy[order]);
    }

    public int by(int order, int i) throws NoSuchElementException {
        if (!orders.has(order) || i < 0 || i >= orders.takenBy[order]) {
            throw new NoSuchElementException();
        }
        return orders.takenAt(order, i);
    }

    public int led(int lot) {
        return yard.piecesOfLot(lot);
    }

    public int shred() {
        int all = offcuts;
        offcuts = 0;
        return all;
    }

    public int count(int what) {
        switch (what) {
            case 0:
                return kinds.used;
            case 1:
                return lengths.used;
            case 2:
                return belt.used;
            case 3:
                return belt.total;
            case 4:
                return belt.lots;
            case 5:
                return yard.used;
            case 6:
                return yard.placesTaken();
            case 7:
                return orders.used;
            case 8:
                return orders.filled;
            case 9:
                return yard.now;
            default:
                return NONE;
        }
    }

    public int trouble() {
        return trouble;
    }

    private int refused(int why) {
        trouble = why;
        return NONE;
    }

    private int answered(int answer) {
        trouble = FINE;
        return answer;
    }

    private boolean denied(int why) {
        trouble = why;
        return false;
    }

    private boolean granted() {
        trouble = FINE;
        return true;
    }

    private static boolean within(int v, int least, int most) {
        return v >= least && v <= most;
    }

    private static boolean isEnd(int wide, int high) {
        return within(wide, 1, LONGEST_SIDE) && within(high, 1, LONGEST_SIDE);
    }

    private int mixedAhead(int kind) {
        int last = belt.lastKind();
        return kinds.has(last) && last != kind ? kinds.mixedBetween(last, kind) : 0;
    }

    private void addPlanned(int kind, int lot) {
        for (int i = 0; i < plan.used; i++) {
            yard.add(kind, kinds.heats[kind], kinds.cools[kind], plan.tenths[i], lot);
        }
    }

    /** The caller has seen that there are enough blocks. */
    private void takeBlocks(int order, int each) {
        int area = orders.wide[order] * orders.high[order];
        int still = orders.many[order];
        orders.beginTaking(order);
        for (int n = 0; n < BLOCKS && still > 0; n++) {
            int block = yard.longestCured(orders.kinds[order], orders.tenths[order]);
            if (block == NONE) {
                break;
            }
            int taken = Math.min(each, still);
            yard.use(block, taken);
            orders.take(order, block);
            offcuts += (end.area() - area * taken) * yard.tenths[block] / 100;
            still -= taken;
        }
    }

    /** The kinds, and how much mixed foam comes between two of them. */
    private static final class Kinds {
        private static final int MIXED_UNTIL_TOLD = 20;

        final int[] heats = new int[KINDS];
        final int[] cools = new int[KINDS];
        private final int[] mixed = new int[KINDS * KINDS];
        int used;

        Kinds() {
            Arrays.fill(mixed, MIXED_UNTIL_TOLD);
        }

        boolean has(int kind) {
            return kind >= 0 && kind < used;
        }

        int add(int heat, int cool) {
            heats[used] = heat;
            cools[used] = cool;
            used++;
            return used - 1;
        }

        void setMixed(int from, int to, int v) {
            mixed[from * KINDS + to] = v;
        }

        int mixedBetween(int from, int to) {
            return mixed[from * KINDS + to];
        }
    }

    /** The lengths that blocks are cut to, and what each is worth of each kind. */
    private static final class Lengths {
        final int[] tenths = new int[LENGTHS];
        private final int[] worths = new int[LENGTHS * KINDS];
        int used;

        boolean has(int length) {
            return length >= 0 && length < used;
        }

        boolean isTold(int v) {
            for (int i = 0; i < used; i++) {
                if (tenths[i] == v) {
                    return true;
                }
            }
            return false;
        }

        int add(int v) {
            tenths[used] = v;
            used++;
            return used - 1;
        }

        void setWorth(int length, int kind, int v) {
            worths[length * KINDS + kind] = v;
        }

        int worthOf(int length, int kind) {
            return worths[length * KINDS + kind];
        }
    }

    /** How one run is cut; its rows are used again for each run. */
    private static final class CutPlan {
        final Lengths lengths = new Lengths();
        /** The most worth of each run that is no longer than the one last asked for. */
        private final int[] most = new int[LONGEST_BELT + 1];
        final int[] tenths = new int[BLOCKS];
        int used;
        int left;

        int mostWorth(int kind, int run) {
            for (int r = 0; r <= run; r++) {
                most[r] = mostOfOneMore(kind, r);
            }
            return most[run];
        }

        private int mostOfOneMore(int kind, int run) {
            int found = 0;
            for (int i = 0; i < lengths.used; i++) {
                if (lengths.tenths[i] <= run) {
                    found = Math.max(found, worthWith(i, kind, run));
                }
            }
            return found;
        }

        private int worthWith(int length, int kind, int run) {
            return lengths.worthOf(length, kind) + most[run - lengths.tenths[length]];
        }

        /** False if the run gives more blocks than there is room for; the plan is of no use then. */
        boolean make(int kind, int run, int room) {
            mostWorth(kind, run);
            used = 0;
            left = run;
            for (int n = 0; n <= room; n++) {
                int next = longestNext(kind);
                if (next == NONE) {
                    return true;
                }
                if (n < room) {
                    tenths[n] = lengths.tenths[next];
                    used++;
                    left -= tenths[n];
                }
            }
            return false;
        }

        /** A length that fits may be cut while the most worth can still be had behind it. */
        private int longestNext(int kind) {
            int longest = NONE;
            for (int i = 0; i < lengths.used; i++) {
                boolean may = lengths.tenths[i] <= left && worthWith(i, kind, left) == most[left];
                if (may && (longest == NONE || lengths.tenths[i] > lengths.tenths[longest])) {
                    longest = i;
                }
            }
            return longest;
        }
    }

    /** The runs on the belt, the first one at 0. */
    private static final class Belt {
        final int[] kinds = new int[RUNS];
        final int[] tenths = new int[RUNS];
        final int[] lotOf = new int[RUNS];
        int used;
        int total;
        int lots;

        boolean has(int run) {
            return run >= 0 && run < used;
        }

        int lastKind() {
            return used > 0 ? kinds[used - 1] : NONE;
        }

        boolean hasRoom(int kind, int mixed, int v) {
            int more = (mixed > 0 ? 1 : 0) + (lastKind() == kind ? 0 : 1);
            return used + more <= RUNS && total + mixed + v <= LONGEST_BELT;
        }

        /** The caller has seen that there is room. */
        void append(int kind, int mixed, int v) {
            if (mixed > 0) {
                begin(NO_ONE, NO_ONE, mixed);
            }
            if (lastKind() == kind) {
                tenths[used - 1] += v;
                total += v;
                return;
            }
            begin(kind, lots, v);
            lots++;
        }

        private void begin(int kind, int lot, int v) {
            kinds[used] = kind;
            lotOf[used] = lot;
            tenths[used] = v;
            used++;
            total += v;
        }

        /** The caller has seen that there is a run. */
        void dropFirst() {
            total -= tenths[0];
            used--;
            System.arraycopy(kinds, 1, kinds, 0, used);
            System.arraycopy(tenths, 1, tenths, 0, used);
            System.arraycopy(lotOf, 1, lotOf, 0, used);
        }
    }

    /** All blocks that were ever cut, the places they lie in, and the hour. */
    private static final class Yard {
        private static final int HOT_ABOVE = 60;
        private static final int COLDEST = 20;
        private static final int CURING_HOURS = 24;
        private static final int NOWHERE = 0;
        private static final int LYING = 1;
        private static final int GONE = 2;

        final int[] kinds = new int[BLOCKS];
        private final int[] heats = new int[BLOCKS];
        private final int[] cools = new int[BLOCKS];
        final int[] tenths = new int[BLOCKS];
        final int[] lots = new int[BLOCKS];
        private final int[] cutAt = new int[BLOCKS];
        final int[] hours = new int[BLOCKS];
        final int[] placeOf = new int[BLOCKS];
        /** The pieces that came of a block; a block that gave some is gone. */
        private final int[] given = new int[BLOCKS];
        final int[] inPlace = new int[PLACES];
        int used;
        int now;

        Yard() {
            Arrays.fill(inPlace, NO_ONE);
        }

        boolean has(int block) {
            return block >= 0 && block < used;
        }

        /** The caller has seen that there is room. */
        void add(int kind, int heat, int cool, int length, int lot) {
            kinds[used] = kind;
            heats[used] = heat;
            cools[used] = cool;
            tenths[used] = length;
            lots[used] = lot;
            cutAt[used] = now;
            placeOf[used] = NONE;
            used++;
        }

        int state(int block) {
            if (given[block] > 0) {
                return GONE;
            }
            return placeOf[block] == NONE ? NOWHERE : LYING;
        }

        int core(int block) {
            int core = heats[block] - cools[block] * (now - cutAt[block]);
            return core < COLDEST ? COLDEST : core;
        }

        private boolean isHot(int block) {
            return core(block) > HOT_ABOVE;
        }

        boolean isCured(int block) {
            return state(block) != GONE && hours[block] >= CURING_HOURS && !isHot(block);
        }

        int layAll() {
            int laid = 0;
            for (int block = 0; block < used; block++) {
                if (state(block) == NOWHERE && layOne(block)) {
                    laid++;
                }
            }
            return laid;
        }

        private boolean layOne(int block) {
            int p = firstCalmPlace();
            if (p == NONE && !isHot(block)) {
                p = lastFreePlace();
            }
            if (p == NONE) {
                return false;
            }
            inPlace[p] = block;
            placeOf[block] = p;
            return true;
        }

        private int firstCalmPlace() {
            for (int p = 0; p < PLACES; p++) {
                if (inPlace[p] == NO_ONE && !hasHot(p - 1) && !hasHot(p + 1)) {
                    return p;
                }
            }
            return NONE;
        }

        private int lastFreePlace() {
            for (int p = PLACES - 1; p >= 0; p--) {
                if (inPlace[p] == NO_ONE) {
                    return p;
                }
            }
            return NONE;
        }

        private boolean hasHot(int p) {
            return p >= 0 && p < PLACES && inPlace[p] != NO_ONE && isHot(inPlace[p]);
        }

        int placesTaken() {
            int taken = 0;
            for (int p = 0; p < PLACES; p++) {
                if (inPlace[p] != NO_ONE) {
                    taken++;
                }
            }
            return taken;
        }

        void takeOut(int block) {
            if (placeOf[block] != NONE) {
                inPlace[placeOf[block]] = NO_ONE;
                placeOf[block] = NONE;
            }
        }

        void goOn(int more) {
            now += more;
            for (int p = 0; p < PLACES; p++) {
                if (inPlace[p] != NO_ONE) {
                    hours[inPlace[p]] += more;
                }
            }
        }

        private boolean isCuredOf(int block, int kind, int length) {
            return kinds[block] == kind && tenths[block] == length && isCured(block);
        }

        int curedOf(int kind, int length) {
            int found = 0;
            for (int block = 0; block < used; block++) {
                if (isCuredOf(block, kind, length)) {
                    found++;
                }
            }
            return found;
        }

        int longestCured(int kind, int length) {
            int longest = NONE;
            for (int block = 0; block < used; block++) {
                boolean may = isCuredOf(block, kind, length);
                if (may && (longest == NONE || hours[block] > hours[longest])) {
                    longest = block;
                }
            }
            return longest;
        }

        void use(int block, int taken) {
            takeOut(block);
            given[block] = taken;
        }

        int piecesOfLot(int lot) {
            int sum = 0;
            for (int block = 0; block < used; block++) {
                if (lots[block] == lot) {
                    sum += given[block];
                }
            }
            return sum;
        }
    }

    /** The end of a block, and how many pieces can be cut from it straight through. */
    private static final class End {
        private static final int ROW = LONGEST_SIDE + 1;

        int wide = 20;
        int high = 10;
        /** The most pieces of an end of a by b, at a * ROW + b. */
        private final int[] most = new int[ROW * ROW];
        private final boolean[] isSum = new boolean[ROW];

        int area() {
            return wide * high;
        }

        int mostPieces(int w, int h) {
            if (w < 1 || h < 1) {
                return 0;
            }
            markSums(w, h);
            for (int a = 1; a <= wide; a++) {
                for (int b = 1; b <= high; b++) {
                    most[a * ROW + b] = mostOf(a, b, w, h);
                }
            }
            return most[wide * ROW + high];
        }

        /** Pieces can all be pushed to one side, so that only sums of their sides count. */
        private void markSums(int w, int h) {
            isSum[0] = true;
            for (int x = 1; x < ROW; x++) {
                isSum[x] = (x >= w && isSum[x - w]) || (x >= h && isSum[x - h]);
            }
        }

        /** The smaller ends have been reckoned; of a cut's two parts the lesser may come first. */
        private int mostOf(int a, int b, int w, int h) {
            if (!isSum[a]) {
                return most[(a - 1) * ROW + b];
            }
            if (!isSum[b]) {
                return most[a * ROW + b - 1];
            }
            boolean fits = (a >= w && b >= h) || (a >= h && b >= w);
            int atMost = a * b / (w * h);
            int found = fits ? 1 : 0;
            for (int x = 1; x <= a / 2 && found < atMost; x++) {
                if (isSum[x]) {
                    found = Math.max(found, most[x * ROW + b] + most[(a - x) * ROW + b]);
                }
            }
            for (int y = 1; y <= b / 2 && found < atMost; y++) {
                if (isSum[y]) {
                    found = Math.max(found, most[a * ROW + y] + most[a * ROW + b - y]);
                }
            }
            return found;
        }
    }

    /** The orders, and the blocks by which each was filled. */
    private static final class Orders {
        final int[] kinds = new int[ORDERS];
        final int[] tenths = new int[ORDERS];
        final int[] wide = new int[ORDERS];
        final int[] high = new int[ORDERS];
        final int[] many = new int[ORDERS];
        /** How many blocks an order took; an order takes at least one as it is filled. */
        final int[] takenBy = new int[ORDERS];
        private final int[] firstTaken = new int[ORDERS];
        /** A block is taken once at most, so that one row holds those of all orders. */
        private final int[] taken = new int[BLOCKS];
        private int takenInAll;
        int used;
        int filled;

        boolean has(int order) {
            return order >= 0 && order < used;
        }

        boolean isFilled(int order) {
            return takenBy[order] > 0;
        }

        /** The caller has seen that there is room. */
        int add(int kind, int length, int w, int h, int pieces) {
            kinds[used] = kind;
            tenths[used] = length;
            wide[used] = w;
            high[used] = h;
            many[used] = pieces;
            used++;
            return used - 1;
        }

        void beginTaking(int order) {
            firstTaken[order] = takenInAll;
            filled++;
        }

        void take(int order, int block) {
            if (takenInAll < BLOCKS) {
                taken[takenInAll] = block;
                takenInAll++;
                takenBy[order]++;
            }
        }

        int takenAt(int order, int i) {
            return taken[firstTaken[order] + i];
        }
    }
}
