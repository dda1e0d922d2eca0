import java.util.ArrayList;
import java.util.List;
import java.util.TreeSet;

/**
 * The document's words, one by one and without any short cut: ways are lists, sums are sets, places
 * are tried one after the other. It shares no code with the class, so that both may be compared.
 */
final class PlainModel {
    static final int BAD = -1, STATE = -2, FULL = -3, NONE = -9;

    static final class Box {
        final int a, b, c;
        int weight = 1;
        int turns = 1;
        int[] laid;

        Box(int a, int b, int c) {
            this.a = a;
            this.b = b;
            this.c = c;
        }

        boolean has(int turn) {
            return turn >= 0 && turn <= 5 && (turns & (1 << turn)) != 0;
        }

        int[] extents(int turn) {
            switch (turn) {
                case 0: return new int[] {a, b, c};
                case 1: return new int[] {a, c, b};
                case 2: return new int[] {b, a, c};
                case 3: return new int[] {b, c, a};
                case 4: return new int[] {c, a, b};
                default: return new int[] {c, b, a};
            }
        }

        int from(int axis) {
            return laid[1 + axis];
        }

        int to(int axis) {
            return laid[1 + axis] + extents(laid[0])[axis];
        }
    }

    private final int[] lengths = {10, 10, 10};
    private final List<Box> boxes = new ArrayList<>();

    private List<Integer> order;
    private List<List<int[]>> ways;
    private int[] next;
    private int[][] chosen;
    private int depth;
    private int done;
    private int outcome;

    PlainModel() {
        anew();
    }

    private void anew() {
        for (Box box : boxes) {
            box.laid = null;
        }
        order = new ArrayList<>();
        for (int i = 0; i < boxes.size(); i++) {
            order.add(i);
        }
        order.sort((p, q) -> volume(p) != volume(q)
                ? Integer.compare(volume(q), volume(p)) : Integer.compare(p, q));
        ways = new ArrayList<>();
        for (int i = 0; i < boxes.size(); i++) {
            ways.add(waysOf(i));
        }
        next = new int[boxes.size() + 1];
        chosen = new int[boxes.size()][];
        depth = 0;
        done = 0;
        outcome = boxes.isEmpty() ? 1 : 0;
    }

    private int volume(int i) {
        Box box = boxes.get(i);
        return box.a * box.b * box.c;
    }

    private boolean isBox(int i) {
        return i >= 0 && i < boxes.size();
    }

    private TreeSet<Integer> coordinates(int i, int axis) {
        TreeSet<Integer> sums = new TreeSet<>();
        sums.add(0);
        for (int j = 0; j < boxes.size(); j++) {
            if (j == i) {
                continue;
            }
            TreeSet<Integer> more = new TreeSet<>(sums);
            for (int turn = 0; turn < 6; turn++) {
                if (boxes.get(j).has(turn)) {
                    for (int sum : sums) {
                        more.add(sum + boxes.get(j).extents(turn)[axis]);
                    }
                }
            }
            sums = more;
        }
        return new TreeSet<>(sums.headSet(lengths[axis], true));
    }

    private boolean isPlace(Box box, int turn, int x, int y, int z) {
        if (!box.has(turn)) {
            return false;
        }
        int[] extents = box.extents(turn);
        long[] at = {x, y, z};
        for (int axis = 0; axis < 3; axis++) {
            if (at[axis] < 0 || at[axis] + extents[axis] > lengths[axis]) {
                return false;
            }
        }
        return true;
    }

    private List<int[]> waysOf(int i) {
        Box box = boxes.get(i);
        List<int[]> list = new ArrayList<>();
        List<String> seen = new ArrayList<>();
        TreeSet<Integer> xs = coordinates(i, 0);
        TreeSet<Integer> ys = coordinates(i, 1);
        TreeSet<Integer> zs = coordinates(i, 2);
        for (int turn = 0; turn < 6; turn++) {
            if (!box.has(turn)) {
                continue;
            }
            String extents = java.util.Arrays.toString(box.extents(turn));
            if (seen.contains(extents)) {
                continue;
            }
            seen.add(extents);
            for (int z : zs) {
                for (int y : ys) {
                    for (int x : xs) {
                        if (isPlace(box, turn, x, y, z)) {
                            list.add(new int[] {turn, x, y, z});
                        }
                    }
                }
            }
        }
        return list;
    }

    private static boolean overlap(Box p, int[] placeP, Box q, int[] placeQ) {
        for (int axis = 0; axis < 3; axis++) {
            int fromP = placeP[1 + axis];
            int fromQ = placeQ[1 + axis];
            int toP = fromP + p.extents(placeP[0])[axis];
            int toQ = fromQ + q.extents(placeQ[0])[axis];
            if (!(fromP < toQ && fromQ < toP)) {
                return false;
            }
        }
        return true;
    }

    int bin(int x, int y, int z) {
        for (int length : new int[] {x, y, z}) {
            if (length < 1 || length > 20) {
                return BAD;
            }
        }
        lengths[0] = x;
        lengths[1] = y;
        lengths[2] = z;
        anew();
        return 0;
    }

    int box(int a, int b, int c) {
        for (int side : new int[] {a, b, c}) {
            if (side < 1 || side > 20) {
                return BAD;
            }
        }
        if (boxes.size() == 8) {
            return FULL;
        }
        boxes.add(new Box(a, b, c));
        anew();
        return boxes.size() - 1;
    }

    int turns(int box, int bits) {
        if (!isBox(box) || bits < 1 || bits > 63) {
            return BAD;
        }
        int before = boxes.get(box).turns;
        boxes.get(box).turns = bits;
        anew();
        return before;
    }

    int weight(int box, int n) {
        if (!isBox(box) || n < 0 || n > 1000) {
            return BAD;
        }
        int before = boxes.get(box).weight;
        boxes.get(box).weight = n;
        return before;
    }

    int clear() {
        int before = boxes.size();
        boxes.clear();
        anew();
        return before;
    }

    int run(int work) {
        if (work < 1 || work > 20000) {
            return BAD;
        }
        int now = 0;
        while (outcome == 0) {
            int box = order.get(depth);
            if (next[depth] == ways.get(box).size()) {
                if (depth == 0) {
                    outcome = 2;
                } else {
                    depth--;
                }
                continue;
            }
            if (now == work) {
                break;
            }
            int[] way = ways.get(box).get(next[depth]);
            next[depth]++;
            now++;
            done++;
            boolean free = true;
            for (int ahead = 0; ahead < depth; ahead++) {
                free &= !overlap(boxes.get(box), way, boxes.get(order.get(ahead)), chosen[ahead]);
            }
            if (free) {
                chosen[depth] = way;
                depth++;
                next[depth] = 0;
                outcome = depth == boxes.size() ? 1 : 0;
            }
        }
        return outcome;
    }

    int told(int what, int k) {
        if (what < 0 || what > 5 || (what != 0 && !isBox(k))) {
            return BAD;
        }
        switch (what) {
            case 0: return done;
            case 1: return order.get(k);
            case 2: return ways.get(k).size();
            default: return coordinates(k, what - 3).size();
        }
    }

    int plan() {
        if (outcome != 1) {
            return STATE;
        }
        for (int i = 0; i < boxes.size(); i++) {
            boxes.get(order.get(i)).laid = chosen[i].clone();
        }
        return boxes.size();
    }

    int lay(int box, int turn, int x, int y, int z) {
        if (!isBox(box) || !isPlace(boxes.get(box), turn, x, y, z)) {
            return BAD;
        }
        boxes.get(box).laid = new int[] {turn, x, y, z};
        return overlaps();
    }

    int lift(int box) {
        if (!isBox(box)) {
            return BAD;
        }
        if (boxes.get(box).laid == null) {
            return STATE;
        }
        boxes.get(box).laid = null;
        return 0;
    }

    int place(int box, int what) {
        if (!isBox(box) || what < 0 || what > 6) {
            return BAD;
        }
        Box b = boxes.get(box);
        if (b.laid == null) {
            return NONE;
        }
        if (what <= 2) {
            return b.laid[1 + what];
        }
        return what == 3 ? b.laid[0] : b.extents(b.laid[0])[what - 4];
    }

    private List<Box> laidBoxes() {
        List<Box> list = new ArrayList<>();
        for (Box box : boxes) {
            if (box.laid != null) {
                list.add(box);
            }
        }
        return list;
    }

    int overlaps() {
        List<Box> list = laidBoxes();
        int pairs = 0;
        for (int i = 0; i < list.size(); i++) {
            for (int j = 0; j < i; j++) {
                if (overlap(list.get(i), list.get(i).laid, list.get(j), list.get(j).laid)) {
                    pairs++;
                }
            }
        }
        return pairs;
    }

    int relative(int a, int b) {
        if (!isBox(a) || !isBox(b) || a == b) {
            return BAD;
        }
        Box p = boxes.get(a);
        Box q = boxes.get(b);
        if (p.laid == null || q.laid == null) {
            return STATE;
        }
        for (int k = 0; k < 6; k++) {
            Box before = k % 2 == 0 ? p : q;
            Box behind = k % 2 == 0 ? q : p;
            if (before.to(k / 2) <= behind.from(k / 2)) {
                return k;
            }
        }
        return NONE;
    }

    int support(int box) {
        if (!isBox(box)) {
            return BAD;
        }
        Box b = boxes.get(box);
        if (b.laid == null) {
            return STATE;
        }
        int area = 0;
        for (int x = b.from(0); x < b.to(0); x++) {
            for (int y = b.from(1); y < b.to(1); y++) {
                if (b.from(2) == 0) {
                    area++;
                    continue;
                }
                for (Box o : laidBoxes()) {
                    if (o.to(2) == b.from(2) && o.from(0) <= x && x < o.to(0)
                            && o.from(1) <= y && y < o.to(1)) {
                        area++;
                    }
                }
            }
        }
        return area;
    }

    int centre(int axis, int part) {
        if (axis < 0 || axis > 2 || part < 0 || part > 1) {
            return BAD;
        }
        long above = 0;
        long below = 0;
        for (Box b : laidBoxes()) {
            above += (long) b.weight * (b.from(axis) + b.to(axis));
            below += 2L * b.weight;
        }
        if (below == 0) {
            return 0;
        }
        long g = java.math.BigInteger.valueOf(above).gcd(java.math.BigInteger.valueOf(below)).longValue();
        return (int) ((part == 0 ? above : below) / g);
    }

    /** Adds the nodes of the tree of these boxes; false if there is none. */
    private boolean addTree(List<Box> group, List<int[]> nodes) {
        if (group.size() == 1) {
            nodes.add(new int[] {NONE, boxes.indexOf(group.get(0)), NONE, NONE});
            return true;
        }
        for (int axis = 0; axis < 3; axis++) {
            for (int place = 0; place <= lengths[axis]; place++) {
                List<Box> before = new ArrayList<>();
                List<Box> behind = new ArrayList<>();
                for (Box b : group) {
                    if (b.to(axis) <= place) {
                        before.add(b);
                    } else if (b.from(axis) >= place) {
                        behind.add(b);
                    }
                }
                if (before.size() + behind.size() < group.size() || before.isEmpty() || behind.isEmpty()) {
                    continue;
                }
                int[] cut = {axis, place, nodes.size() + 1, 0};
                nodes.add(cut);
                if (!addTree(before, nodes)) {
                    return false;
                }
                cut[3] = nodes.size();
                return addTree(behind, nodes);
            }
        }
        return false;
    }

    private List<int[]> nodes() {
        List<int[]> nodes = new ArrayList<>();
        List<Box> group = laidBoxes();
        if (group.isEmpty() || !addTree(group, nodes)) {
            nodes.clear();
        }
        return nodes;
    }

    int tree() {
        return overlaps() > 0 ? STATE : nodes().size();
    }

    int node(int k, int what) {
        if (k < 0 || k > 14 || what < 0 || what > 3) {
            return BAD;
        }
        if (overlaps() > 0) {
            return STATE;
        }
        List<int[]> nodes = nodes();
        return k < nodes.size() ? nodes.get(k)[what] : NONE;
    }

    private int functions(int axis) {
        return 1 + 2 * (lengths[axis] / 2);
    }

    private int f(int axis, int n, int x) {
        int l = lengths[axis];
        int h = l / 2;
        if (n == 0) {
            return x;
        }
        if (n <= h) {
            int k = n;
            if (x > l - k) {
                return l;
            }
            return x < k ? 0 : x;
        }
        int k = n - h;
        int q = (int) Math.floor((double) l / k);
        if (2 * x < l) {
            return 2 * (int) Math.floor((double) x / k);
        }
        if (2 * x == l) {
            return q;
        }
        return 2 * (q - (int) Math.floor((double) (l - x) / k));
    }

    int dual(int axis, int n, int x) {
        if (axis < 0 || axis > 2 || n < 0 || n >= functions(axis) || x < 0 || x > lengths[axis]) {
            return BAD;
        }
        return f(axis, n, x);
    }

    private long has(int n0, int n1, int n2) {
        return (long) f(0, n0, lengths[0]) * f(1, n1, lengths[1]) * f(2, n2, lengths[2]);
    }

    private long needOf(List<Box> of, int n0, int n1, int n2) {
        long sum = 0;
        for (Box b : of) {
            long least = -1;
            for (int turn = 0; turn < 6; turn++) {
                int[] e = b.extents(turn);
                if (!b.has(turn) || e[0] > lengths[0] || e[1] > lengths[1] || e[2] > lengths[2]) {
                    continue;
                }
                long product = (long) f(0, n0, e[0]) * f(1, n1, e[1]) * f(2, n2, e[2]);
                least = least < 0 ? product : Math.min(least, product);
            }
            sum += least < 0 ? has(n0, n1, n2) + 1 : least;
        }
        return sum;
    }

    long need(int n0, int n1, int n2, int what) {
        int[] n = {n0, n1, n2};
        for (int axis = 0; axis < 3; axis++) {
            if (n[axis] < 0 || n[axis] >= functions(axis)) {
                return BAD;
            }
        }
        if (what < 0 || what > 1) {
            return BAD;
        }
        return what == 0 ? needOf(boxes, n0, n1, n2) : has(n0, n1, n2);
    }

    int proof(int what) {
        if (what < 0 || what > 3) {
            return BAD;
        }
        for (int n0 = 0; n0 < functions(0); n0++) {
            for (int n1 = 0; n1 < functions(1); n1++) {
                for (int n2 = 0; n2 < functions(2); n2++) {
                    if (needOf(boxes, n0, n1, n2) > has(n0, n1, n2)) {
                        return what < 3 ? new int[] {n0, n1, n2}[what] : reason(n0, n1, n2);
                    }
                }
            }
        }
        return NONE;
    }

    private int reason(int n0, int n1, int n2) {
        List<Box> left = new ArrayList<>(boxes);
        for (Box b : boxes) {
            List<Box> without = new ArrayList<>(left);
            without.remove(b);
            if (needOf(without, n0, n1, n2) > has(n0, n1, n2)) {
                left = without;
            }
        }
        int bits = 0;
        for (Box b : left) {
            bits |= 1 << boxes.indexOf(b);
        }
        return bits;
    }

    int none(int box, int turn, int x, int y, int z) {
        if (!isBox(box) || !isPlace(boxes.get(box), turn, x, y, z)) {
            return BAD;
        }
        int[] place = {turn, x, y, z};
        for (int other = 0; other < boxes.size(); other++) {
            if (other != box && !hasPlaceBeside(boxes.get(other), boxes.get(box), place)) {
                return 1;
            }
        }
        return 0;
    }

    private boolean hasPlaceBeside(Box other, Box box, int[] place) {
        for (int turn = 0; turn < 6; turn++) {
            for (int x = 0; x < lengths[0]; x++) {
                for (int y = 0; y < lengths[1]; y++) {
                    for (int z = 0; z < lengths[2]; z++) {
                        if (isPlace(other, turn, x, y, z)
                                && !overlap(other, new int[] {turn, x, y, z}, box, place)) {
                            return true;
                        }
                    }
                }
            }
        }
        return false;
    }
}
