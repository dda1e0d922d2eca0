/**
 * Boxes in a bin: exact plans by a closed search through normal places, bounds by dual functions
 * that are proved, reasons that imply alone, places that no plan of pairs has; and what is laid:
 * overlaps, relative places, supports, centres, trees of cuts.
 */
public final class PlaceRectangles {
    public static final int BAD = -1, STATE = -2, FULL = -3, NONE = -9;

    private static final int AXES = 3;
    private static final int BOXES = 8;
    private static final int TURNS = 6;
    private static final int LONGEST = 20;
    private static final int FIRST_LENGTH = 10;
    private static final int HEAVIEST = 1000;
    private static final int ALL_TURNS = 63;
    private static final int MOST_WORK = 20000;
    private static final int MOST_NODES = 2 * BOXES - 1;
    private static final int NODE_PARTS = 4;

    private final Stock stock;
    private final Search search;
    private final Laid laid;
    private final Cuts cuts;
    private final Duals duals;

    public PlaceRectangles() {
        stock = new Stock();
        search = new Search(stock);
        laid = new Laid(stock);
        cuts = new Cuts(laid);
        duals = new Duals(stock);
        beginAnew();
    }

    public int bin(int x, int y, int z) {
        if (!isLength(x) || !isLength(y) || !isLength(z)) {
            return BAD;
        }
        stock.lengths[0] = x;
        stock.lengths[1] = y;
        stock.lengths[2] = z;
        beginAnew();
        return 0;
    }

    public int box(int a, int b, int c) {
        if (!isLength(a) || !isLength(b) || !isLength(c)) {
            return BAD;
        }
        if (stock.count >= BOXES) {
            return FULL;
        }
        int number = stock.count;
        stock.append(a, b, c);
        beginAnew();
        return number;
    }

    public int turns(int box, int bits) {
        if (!stock.isBox(box) || bits < 1 || bits > ALL_TURNS) {
            return BAD;
        }
        int before = stock.turnBits[box];
        stock.turnBits[box] = bits;
        beginAnew();
        return before;
    }

    public int weight(int box, int n) {
        if (!stock.isBox(box) || n < 0 || n > HEAVIEST) {
            return BAD;
        }
        int before = stock.weights[box];
        stock.weights[box] = n;
        return before;
    }

    public int clear() {
        int before = stock.count;
        stock.count = 0;
        beginAnew();
        return before;
    }

    public int run(int work) {
        if (work < 1 || work > MOST_WORK) {
            return BAD;
        }
        return search.goOn(work);
    }

    public int told(int what, int k) {
        if (what == 0) {
            return search.workDone;
        }
        if (what < 0 || what > 5 || !stock.isBox(k)) {
            return BAD;
        }
        if (what == 1) {
            return search.order[k];
        }
        return what == 2 ? search.wayCount(k) : search.coordinateCount(k, what - 3);
    }

    public int plan() {
        if (search.outcome != Search.PLANNED) {
            return STATE;
        }
        for (int depth = 0; depth < stock.count; depth++) {
            int at = depth * AXES;
            laid.put(search.order[depth], search.turnAt[depth],
                    search.begins[at], search.begins[at + 1], search.begins[at + 2]);
        }
        return stock.count;
    }

    public int lay(int box, int turn, int x, int y, int z) {
        if (!stock.isPlace(box, turn, x, y, z)) {
            return BAD;
        }
        laid.put(box, turn, x, y, z);
        return laid.overlapCount();
    }

    public int lift(int box) {
        if (!stock.isBox(box)) {
            return BAD;
        }
        if (!laid.holds(box)) {
            return STATE;
        }
        laid.takeAway(box);
        return 0;
    }

    public int place(int box, int what) {
        if (!stock.isBox(box) || what < 0 || what > 6) {
            return BAD;
        }
        if (!laid.holds(box)) {
            return NONE;
        }
        if (what < AXES) {
            return laid.begins[box * AXES + what];
        }
        return what == 3 ? laid.turnOf[box] : laid.extentOf(box, what - 4);
    }

    public int overlaps() {
        return laid.overlapCount();
    }

    public int relative(int a, int b) {
        if (!stock.isBox(a) || !stock.isBox(b) || a == b) {
            return BAD;
        }
        if (!laid.holds(a) || !laid.holds(b)) {
            return STATE;
        }
        return laid.firstGap(a, b);
    }

    public int support(int box) {
        if (!stock.isBox(box)) {
            return BAD;
        }
        return laid.holds(box) ? laid.heldArea(box) : STATE;
    }

    public int centre(int axis, int part) {
        if (!isAxis(axis) || part < 0 || part > 1) {
            return BAD;
        }
        // A middle may be a half, so both parts are doubled.
        int above = laid.doubledMoment(axis);
        int below = 2 * laid.weightSum();
        int divisor = commonDivisor(above, below);
        if (divisor == 0) {
            return 0;
        }
        return (part == 0 ? above : below) / divisor;
    }

    public int tree() {
        return laid.overlapCount() > 0 ? STATE : cuts.build();
    }

    public int node(int k, int what) {
        if (k < 0 || k >= MOST_NODES || what < 0 || what >= NODE_PARTS) {
            return BAD;
        }
        if (laid.overlapCount() > 0) {
            return STATE;
        }
        return k < cuts.build() ? cuts.nodes[k * NODE_PARTS + what] : NONE;
    }

    public int dual(int axis, int n, int x) {
        if (!isAxis(axis) || !duals.isFunction(axis, n) || x < 0 || x > stock.lengths[axis]) {
            return BAD;
        }
        return Duals.valueOf(stock.lengths[axis], n, x);
    }

    public long need(int n0, int n1, int n2, int what) {
        if (what < 0 || what > 1) {
            return BAD;
        }
        if (!duals.isFunction(0, n0) || !duals.isFunction(1, n1) || !duals.isFunction(2, n2)) {
            return BAD;
        }
        duals.prepare();
        duals.choose(n0, n1);
        return what == 0 ? duals.needOf(stock.allBoxes(), n2) : duals.binHas(n2);
    }

    public int proof(int what) {
        if (what < 0 || what > 3) {
            return BAD;
        }
        duals.seekProof();
        return duals.found[what];
    }

    public int none(int box, int turn, int x, int y, int z) {
        if (!stock.isPlace(box, turn, x, y, z)) {
            return BAD;
        }
        for (int other = 0; other < stock.count; other++) {
            if (other != box && !stock.hasRoomBeside(other, box, turn, x, y, z)) {
                return 1;
            }
        }
        return 0;
    }

    private void beginAnew() {
        search.restart();
        laid.takeAllAway();
        duals.forget();
    }

    private static boolean isLength(int n) {
        return n >= 1 && n <= LONGEST;
    }

    private static boolean isAxis(int axis) {
        return axis >= 0 && axis < AXES;
    }

    /** The coordinate of the lowest bit; of no bits 32, which no caller asks. */
    private static int lowest(int bits) {
        return Integer.bitCount((bits & -bits) - 1);
    }

    private static int commonDivisor(int a, int b) {
        int greater = a;
        int less = b;
        // Euclid's steps on ints are fewer than fifty.
        for (int step = 0; step < 64 && less != 0; step++) {
            int left = greater % less;
            greater = less;
            less = left;
        }
        return greater;
    }

    /** The bin and the boxes as they were told. */
    private static final class Stock {
        /** Which side lies on which axis, three a turn. */
        private static final int[] SIDES_OF_TURNS = {
            0, 1, 2, 0, 2, 1, 1, 0, 2, 1, 2, 0, 2, 0, 1, 2, 1, 0
        };

        final int[] lengths = {FIRST_LENGTH, FIRST_LENGTH, FIRST_LENGTH};
        final int[] sides = new int[BOXES * AXES];
        final int[] turnBits = new int[BOXES];
        final int[] weights = new int[BOXES];
        int count;

        void append(int a, int b, int c) {
            if (count >= BOXES) {
                return;
            }
            sides[count * AXES] = a;
            sides[count * AXES + 1] = b;
            sides[count * AXES + 2] = c;
            turnBits[count] = 1;
            weights[count] = 1;
            count++;
        }

        boolean isBox(int box) {
            return box >= 0 && box < count;
        }

        int allBoxes() {
            return (1 << count) - 1;
        }

        int extent(int box, int turn, int axis) {
            return sides[box * AXES + SIDES_OF_TURNS[turn * AXES + axis]];
        }

        int volume(int box) {
            return sides[box * AXES] * sides[box * AXES + 1] * sides[box * AXES + 2];
        }

        boolean hasTurn(int box, int turn) {
            return (turnBits[box] >> turn & 1) == 1;
        }

        boolean sameExtents(int box, int turn, int other) {
            return extent(box, turn, 0) == extent(box, other, 0)
                    && extent(box, turn, 1) == extent(box, other, 1)
                    && extent(box, turn, 2) == extent(box, other, 2);
        }

        boolean isShort(int box, int turn) {
            return extent(box, turn, 0) <= lengths[0]
                    && extent(box, turn, 1) <= lengths[1]
                    && extent(box, turn, 2) <= lengths[2];
        }

        /** Whether the box has the turn, lies in the bin with it, and has none like it ahead. */
        boolean counts(int box, int turn) {
            if (!hasTurn(box, turn) || !isShort(box, turn)) {
                return false;
            }
            for (int ahead = 0; ahead < turn; ahead++) {
                if (hasTurn(box, ahead) && sameExtents(box, ahead, turn)) {
                    return false;
                }
            }
            return true;
        }

        boolean isPlace(int box, int turn, int x, int y, int z) {
            return isBox(box) && turn >= 0 && turn < TURNS && hasTurn(box, turn)
                    && liesWithin(0, x, extent(box, turn, 0))
                    && liesWithin(1, y, extent(box, turn, 1))
                    && liesWithin(2, z, extent(box, turn, 2));
        }

        private boolean liesWithin(int axis, int from, int extent) {
            // The sum of both could wrap around; the difference can't.
            return from >= 0 && from <= lengths[axis] - extent;
        }

        /** Whether the other box has any place that does not overlap the box at this one. */
        boolean hasRoomBeside(int other, int box, int turn, int x, int y, int z) {
            // Boxes that don't overlap are apart on one axis, where the wider gap decides.
            int gap0 = Math.max(x, lengths[0] - x - extent(box, turn, 0));
            int gap1 = Math.max(y, lengths[1] - y - extent(box, turn, 1));
            int gap2 = Math.max(z, lengths[2] - z - extent(box, turn, 2));
            for (int t = 0; t < TURNS; t++) {
                if (counts(other, t) && (extent(other, t, 0) <= gap0
                        || extent(other, t, 1) <= gap1 || extent(other, t, 2) <= gap2)) {
                    return true;
                }
            }
            return false;
        }
    }

    /**
     * The search through the ways. Sets of coordinates are bits of an int. The ways that differ on
     * axis 0 alone are a row: what the boxes ahead block of a row is the same for all of it, so
     * that a row is gone through at once, and its WORK counted by bits.
     */
    private static final class Search {
        static final int OPEN = 0, PLANNED = 1, CLOSED = 2;
        /** A step looks at a way, or follows upon one that did: far fewer than this in one call. */
        private static final int MOST_STEPS = 1000000;

        private final Stock stock;
        final int[] order = new int[BOXES];
        private final int[] coordinates = new int[BOXES * AXES];
        /** All that follows has the depth in THE ORDER as its index. */
        final int[] turnAt = new int[BOXES];
        private final int[] turnExtents = new int[BOXES * AXES];
        private final int[] turnCoordinates = new int[BOXES * AXES];
        final int[] begins = new int[BOXES * AXES];
        private final int[] ends = new int[BOXES * AXES];
        private final int[] layersLeft = new int[BOXES];
        private final int[] rowsLeft = new int[BOXES];
        private final int[] waysLeft = new int[BOXES];
        private final int[] freeLeft = new int[BOXES];
        private int depth;
        private int workLeft;
        int workDone;
        int outcome;

        Search(Stock stock) {
            this.stock = stock;
        }

        void restart() {
            orderBoxes();
            for (int box = 0; box < stock.count; box++) {
                for (int axis = 0; axis < AXES; axis++) {
                    coordinates[box * AXES + axis] = sumsOfOthers(box, axis);
                }
            }
            workDone = 0;
            outcome = stock.count == 0 ? PLANNED : OPEN;
            enter(0);
        }

        private void orderBoxes() {
            for (int box = 0; box < stock.count; box++) {
                int spot = box;
                for (; spot > 0 && stock.volume(order[spot - 1]) < stock.volume(box); spot--) {
                    order[spot] = order[spot - 1];
                }
                order[spot] = box;
            }
        }

        private int sumsOfOthers(int box, int axis) {
            int upToLength = (2 << stock.lengths[axis]) - 1;
            int sums = 1;
            for (int other = 0; other < stock.count; other++) {
                if (other != box) {
                    sums = withExtents(sums, other, axis) & upToLength;
                }
            }
            return sums;
        }

        private int withExtents(int sums, int other, int axis) {
            int grown = sums;
            for (int turn = 0; turn < TURNS; turn++) {
                if (stock.hasTurn(other, turn)) {
                    grown |= sums << stock.extent(other, turn, axis);
                }
            }
            return grown;
        }

        int coordinateCount(int box, int axis) {
            return Integer.bitCount(coordinates[box * AXES + axis]);
        }

        int wayCount(int box) {
            int ways = 0;
            for (int turn = 0; turn < TURNS; turn++) {
                if (stock.counts(box, turn)) {
                    ways += Integer.bitCount(wayCoordinates(box, turn, 0))
                            * Integer.bitCount(wayCoordinates(box, turn, 1))
                            * Integer.bitCount(wayCoordinates(box, turn, 2));
                }
            }
            return ways;
        }

        /** Of a turn that counts: 0 is always among them. */
        private int wayCoordinates(int box, int turn, int axis) {
            int last = stock.lengths[axis] - stock.extent(box, turn, axis);
            return coordinates[box * AXES + axis] & (2 << last) - 1;
        }

        int goOn(int work) {
            workLeft = work;
            for (int step = 0; step < MOST_STEPS && outcome == OPEN; step++) {
                if (waysLeft[depth] != 0) {
                    if (workLeft == 0) {
                        break;
                    }
                    lookAlongRow();
                } else if (!nextRow()) {
                    goBack();
                }
            }
            return outcome;
        }

        private void enter(int newDepth) {
            depth = newDepth;
            turnAt[depth] = -1;
            layersLeft[depth] = 0;
            rowsLeft[depth] = 0;
            waysLeft[depth] = 0;
            freeLeft[depth] = 0;
        }

        private void goBack() {
            if (depth == 0) {
                outcome = CLOSED;
            } else {
                depth--;
            }
        }

        private boolean nextRow() {
            if (rowsLeft[depth] == 0 && layersLeft[depth] == 0) {
                nextTurn();
            }
            if (rowsLeft[depth] == 0 && layersLeft[depth] != 0) {
                nextLayer();
            }
            if (rowsLeft[depth] == 0) {
                return false;
            }
            setAxis(1, lowest(rowsLeft[depth]));
            rowsLeft[depth] &= rowsLeft[depth] - 1;
            waysLeft[depth] = turnCoordinates[depth * AXES];
            freeLeft[depth] = waysLeft[depth] & ~blockedInRow();
            return true;
        }

        private void nextLayer() {
            setAxis(2, lowest(layersLeft[depth]));
            layersLeft[depth] &= layersLeft[depth] - 1;
            rowsLeft[depth] = turnCoordinates[depth * AXES + 1];
        }

        private void nextTurn() {
            int box = order[depth];
            for (int turn = turnAt[depth] + 1; turn < TURNS; turn++) {
                if (stock.counts(box, turn)) {
                    turnTo(box, turn);
                    return;
                }
            }
        }

        private void turnTo(int box, int turn) {
            turnAt[depth] = turn;
            for (int axis = 0; axis < AXES; axis++) {
                turnExtents[depth * AXES + axis] = stock.extent(box, turn, axis);
                turnCoordinates[depth * AXES + axis] = wayCoordinates(box, turn, axis);
            }
            layersLeft[depth] = turnCoordinates[depth * AXES + 2];
        }

        private void setAxis(int axis, int from) {
            int at = depth * AXES + axis;
            begins[at] = from;
            ends[at] = from + turnExtents[at];
        }

        /** Where on axis 0 the box would overlap one of those ahead of it. */
        private int blockedInRow() {
            int own = depth * AXES;
            int blocked = 0;
            for (int at = 0; at < own; at += AXES) {
                if (begins[at + 1] < ends[own + 1] && begins[own + 1] < ends[at + 1]
                        && begins[at + 2] < ends[own + 2] && begins[own + 2] < ends[at + 2]) {
                    int first = Math.max(0, begins[at] - turnExtents[own] + 1);
                    blocked |= (1 << ends[at]) - (1 << first);
                }
            }
            return blocked;
        }

        /** Looks at the row's ways up to the first free one, as far as the work goes. */
        private void lookAlongRow() {
            int free = freeLeft[depth] & -freeLeft[depth];
            int seen = free == 0 ? waysLeft[depth] : waysLeft[depth] & (2 * free - 1);
            int cost = Integer.bitCount(seen);
            if (cost > workLeft) {
                lookAtBlocked();
                return;
            }
            workDone += cost;
            workLeft -= cost;
            waysLeft[depth] &= ~seen;
            freeLeft[depth] &= ~free;
            if (free != 0) {
                take(lowest(free));
            }
        }

        /** The work ends ahead of the first free way, so all that it reaches is blocked. */
        private void lookAtBlocked() {
            for (int k = 0; k < workLeft; k++) {
                waysLeft[depth] &= waysLeft[depth] - 1;
            }
            workDone += workLeft;
            workLeft = 0;
        }

        private void take(int from) {
            setAxis(0, from);
            if (depth + 1 < stock.count) {
                enter(depth + 1);
            } else {
                outcome = PLANNED;
            }
        }
    }

    /** The boxes that have a place. */
    private static final class Laid {
        private final Stock stock;
        final int[] turnOf = new int[BOXES];
        final int[] begins = new int[BOXES * AXES];
        final int[] ends = new int[BOXES * AXES];
        int members;

        Laid(Stock stock) {
            this.stock = stock;
        }

        boolean holds(int box) {
            return (members >> box & 1) == 1;
        }

        void takeAway(int box) {
            members &= ~(1 << box);
        }

        void takeAllAway() {
            members = 0;
        }

        void put(int box, int turn, int x, int y, int z) {
            turnOf[box] = turn;
            begins[box * AXES] = x;
            begins[box * AXES + 1] = y;
            begins[box * AXES + 2] = z;
            for (int axis = 0; axis < AXES; axis++) {
                int at = box * AXES + axis;
                ends[at] = begins[at] + stock.extent(box, turn, axis);
            }
            members |= 1 << box;
        }

        int extentOf(int box, int axis) {
            return ends[box * AXES + axis] - begins[box * AXES + axis];
        }

        int overlapCount() {
            int pairs = 0;
            for (int a = 0; a < BOXES; a++) {
                for (int b = a + 1; b < BOXES; b++) {
                    if (holds(a) && holds(b) && firstGap(a, b) == NONE) {
                        pairs++;
                    }
                }
            }
            return pairs;
        }

        /** 2 * axis if a is before b there, 2 * axis + 1 if b is before a; NONE: they overlap. */
        int firstGap(int a, int b) {
            for (int axis = 0; axis < AXES; axis++) {
                if (ends[a * AXES + axis] <= begins[b * AXES + axis]) {
                    return 2 * axis;
                }
                if (ends[b * AXES + axis] <= begins[a * AXES + axis]) {
                    return 2 * axis + 1;
                }
            }
            return NONE;
        }

        int heldArea(int box) {
            int ground = begins[box * AXES + 2];
            if (ground == 0) {
                return extentOf(box, 0) * extentOf(box, 1);
            }
            int area = 0;
            for (int other = 0; other < BOXES; other++) {
                if (holds(other) && ends[other * AXES + 2] == ground) {
                    area += commonLength(box, other, 0) * commonLength(box, other, 1);
                }
            }
            return area;
        }

        private int commonLength(int a, int b, int axis) {
            int from = Math.max(begins[a * AXES + axis], begins[b * AXES + axis]);
            int to = Math.min(ends[a * AXES + axis], ends[b * AXES + axis]);
            return Math.max(0, to - from);
        }

        int weightSum() {
            int sum = 0;
            for (int box = 0; box < BOXES; box++) {
                if (holds(box)) {
                    sum += stock.weights[box];
                }
            }
            return sum;
        }

        int doubledMoment(int axis) {
            int sum = 0;
            for (int box = 0; box < BOXES; box++) {
                if (holds(box)) {
                    int at = box * AXES + axis;
                    sum += stock.weights[box] * (begins[at] + ends[at]);
                }
            }
            return sum;
        }
    }

    /** The tree of cuts of the laid boxes. */
    private static final class Cuts {
        private final Laid laid;
        /** Of each node what node() tells of it. */
        final int[] nodes = new int[MOST_NODES * NODE_PARTS];
        /** Sets of boxes whose trees are to come, the next one last; never more than boxes. */
        private final int[] pending = new int[BOXES + 1];

        Cuts(Laid laid) {
            this.laid = laid;
        }

        /** Builds the tree of boxes that don't overlap: how many nodes, 0 if there is none. */
        int build() {
            int open = 0;
            if (laid.members != 0) {
                pending[open++] = laid.members;
            }
            int made = 0;
            for (; made < MOST_NODES && open > 0; made++) {
                int group = pending[--open];
                if ((group & group - 1) == 0) {
                    write(made, NONE, lowest(group), NONE, NONE);
                    continue;
                }
                int axis = axisOfCut(group);
                if (axis == NONE || open + 2 > pending.length) {
                    return 0;
                }
                int place = lowest(cutPlaces(group, axis));
                int before = boxesBefore(group, axis, place);
                // A tree of m boxes has 2 m - 1 nodes, so the second one begins behind these.
                write(made, axis, place, made + 1, made + 2 * Integer.bitCount(before));
                pending[open++] = group & ~before;
                pending[open++] = before;
            }
            return made;
        }

        private void write(int node, int axis, int place, int first, int second) {
            int at = node * NODE_PARTS;
            nodes[at] = axis;
            nodes[at + 1] = place;
            nodes[at + 2] = first;
            nodes[at + 3] = second;
        }

        private int axisOfCut(int group) {
            for (int axis = 0; axis < AXES; axis++) {
                if (cutPlaces(group, axis) != 0) {
                    return axis;
                }
            }
            return NONE;
        }

        /** The bits of all places where a cut can be: in no box, with some before and some behind. */
        private int cutPlaces(int group, int axis) {
            int leastEnd = LONGEST;
            int greatestBegin = 0;
            int inside = 0;
            for (int box = 0; box < BOXES; box++) {
                if ((group >> box & 1) == 1) {
                    int begin = laid.begins[box * AXES + axis];
                    int end = laid.ends[box * AXES + axis];
                    leastEnd = Math.min(leastEnd, end);
                    greatestBegin = Math.max(greatestBegin, begin);
                    inside |= (1 << end) - (2 << begin);
                }
            }
            if (greatestBegin < leastEnd) {
                return 0;
            }
            return (2 << greatestBegin) - (1 << leastEnd) & ~inside;
        }

        private int boxesBefore(int group, int axis, int place) {
            int before = 0;
            for (int box = 0; box < BOXES; box++) {
                if ((group >> box & 1) == 1 && laid.ends[box * AXES + axis] <= place) {
                    before |= 1 << box;
                }
            }
            return before;
        }
    }

    /** The dual functions, and the first three of them that prove that there is no plan. */
    private static final class Duals {
        private static final int WIDTH = LONGEST + 1;

        private final Stock stock;
        final int[] found = new int[AXES + 1];
        /** Of each axis, function and number the value: need and proof ask for them many times. */
        private final int[] values = new int[AXES * WIDTH * WIDTH];
        /** The extents of the turns that count, box after box; where each box's begin. */
        private final int[] extents = new int[BOXES * TURNS * AXES];
        private final int[] firstTurn = new int[BOXES + 1];
        /** Of each such turn the product on axes 0 and 1, for the functions that are chosen. */
        private final int[] areas = new int[BOXES * TURNS];
        private int binArea;
        /** Of each axis the functions that THE PROOF may have, as bits. */
        private final int[] tried = new int[AXES];
        private boolean prepared;
        private boolean sought;

        Duals(Stock stock) {
            this.stock = stock;
        }

        void forget() {
            prepared = false;
            sought = false;
        }

        private int lastFunction(int axis) {
            return stock.lengths[axis] / 2 * 2;
        }

        boolean isFunction(int axis, int n) {
            return n >= 0 && n <= lastFunction(axis);
        }

        static int valueOf(int length, int n, int x) {
            if (n == 0) {
                return x;
            }
            int half = length / 2;
            if (n <= half) {
                return x > length - n ? length : x < n ? 0 : x;
            }
            int step = n - half;
            int steps = length / step;
            if (2 * x < length) {
                return 2 * (x / step);
            }
            return 2 * x == length ? steps : 2 * (steps - (length - x) / step);
        }

        void prepare() {
            if (prepared) {
                return;
            }
            prepared = true;
            for (int axis = 0; axis < AXES; axis++) {
                tellValues(axis);
            }
            int turns = 0;
            for (int box = 0; box < stock.count; box++) {
                firstTurn[box] = turns;
                turns = tellTurns(box, turns);
            }
            firstTurn[stock.count] = turns;
        }

        private void tellValues(int axis) {
            int length = stock.lengths[axis];
            for (int n = 0; n <= lastFunction(axis); n++) {
                for (int x = 0; x <= length; x++) {
                    values[(axis * WIDTH + n) * WIDTH + x] = valueOf(length, n, x);
                }
            }
        }

        private int tellTurns(int box, int ahead) {
            int turns = ahead;
            for (int turn = 0; turn < TURNS; turn++) {
                if (stock.counts(box, turn)) {
                    for (int axis = 0; axis < AXES; axis++) {
                        extents[turns * AXES + axis] = stock.extent(box, turn, axis);
                    }
                    turns++;
                }
            }
            return turns;
        }

        void choose(int n0, int n1) {
            int row0 = n0 * WIDTH;
            int row1 = (WIDTH + n1) * WIDTH;
            binArea = values[row0 + stock.lengths[0]] * values[row1 + stock.lengths[1]];
            for (int turn = 0; turn < firstTurn[stock.count]; turn++) {
                int at = turn * AXES;
                areas[turn] = values[row0 + extents[at]] * values[row1 + extents[at + 1]];
            }
        }

        int binHas(int n2) {
            return binArea * values[(2 * WIDTH + n2) * WIDTH + stock.lengths[2]];
        }

        int needOf(int boxes, int n2) {
            int row2 = (2 * WIDTH + n2) * WIDTH;
            // No turn that counts needs more than the bin has: this stays if there is none.
            int beyond = binHas(n2) + 1;
            int sum = 0;
            for (int box = 0; box < stock.count; box++) {
                if ((boxes >> box & 1) == 1) {
                    int least = beyond;
                    for (int turn = firstTurn[box]; turn < firstTurn[box + 1]; turn++) {
                        least = Math.min(least, areas[turn] * values[row2 + extents[turn * AXES + 2]]);
                    }
                    sum += least;
                }
            }
            return sum;
        }

        private boolean proves(int boxes, int n2) {
            return needOf(boxes, n2) > binHas(n2);
        }

        void seekProof() {
            if (sought) {
                return;
            }
            sought = true;
            prepare();
            for (int axis = 0; axis < AXES; axis++) {
                leaveOutIdle(axis);
            }
            for (int n0 = 0; n0 <= lastFunction(0); n0++) {
                for (int n1 = 0; isTried(0, n0) && n1 <= lastFunction(1); n1++) {
                    if (isTried(1, n1) && seekOnLastAxis(n0, n1)) {
                        return;
                    }
                }
            }
            keep(NONE, NONE, NONE, NONE);
        }

        private boolean seekOnLastAxis(int n0, int n1) {
            choose(n0, n1);
            for (int n2 = 0; n2 <= lastFunction(2); n2++) {
                if (isTried(2, n2) && proves(stock.allBoxes(), n2)) {
                    keep(n0, n1, n2, reason(n2));
                    return true;
                }
            }
            return false;
        }

        private boolean isTried(int axis, int n) {
            return (tried[axis] >> n & 1) == 1;
        }

        /**
         * A function is idle if one ahead of it gives each extent at least as much of what it gives
         * the length: what the idle one proves, that one proves too, and THE PROOF is the first.
         */
        private void leaveOutIdle(int axis) {
            tried[axis] = 0;
            for (int n = 0; n <= lastFunction(axis); n++) {
                boolean idle = false;
                for (int ahead = 0; ahead < n && !idle; ahead++) {
                    idle = isTried(axis, ahead) && givesNoLess(axis, ahead, n);
                }
                if (!idle) {
                    tried[axis] |= 1 << n;
                }
            }
        }

        private boolean givesNoLess(int axis, int ahead, int n) {
            int rowAhead = (axis * WIDTH + ahead) * WIDTH;
            int row = (axis * WIDTH + n) * WIDTH;
            int length = stock.lengths[axis];
            for (int turn = 0; turn < firstTurn[stock.count]; turn++) {
                int extent = extents[turn * AXES + axis];
                if (values[rowAhead + extent] * values[row + length]
                        < values[row + extent] * values[rowAhead + length]) {
                    return false;
                }
            }
            return true;
        }

        private void keep(int n0, int n1, int n2, int boxes) {
            found[0] = n0;
            found[1] = n1;
            found[2] = n2;
            found[3] = boxes;
        }

        private int reason(int n2) {
            int left = stock.allBoxes();
            for (int box = 0; box < stock.count; box++) {
                int without = left & ~(1 << box);
                if (proves(without, n2)) {
                    left = without;
                }
            }
            return left;
        }
    }
}
