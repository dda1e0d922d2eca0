/** Promises 17 and 18: tree, node. */
final class TreeTest {
    private static final int BAD = PlaceRectangles.BAD, STATE = PlaceRectangles.STATE;
    private static final int NONE = PlaceRectangles.NONE;
    private static final Check CHECK = new Check();

    public static void main(String[] args) {
        noBoxAndOneBox();
        leastPlaceFirstAxis();
        gapBetween();
        nodesInOrder();
        pinwheel();
        pinwheelInside();
        eightInARow();
        nestedSlabs();
        changesWithWhatIsLaid();
        refusals();
        CHECK.end();
    }

    private static void due(String call, long got, long want) {
        CHECK.due(call, got, want);
    }

    private static void nodeIs(PlaceRectangles x, int k, int axis, int place, int first, int second) {
        int[] told = {axis, place, first, second};
        for (int what = 0; what < 4; what++) {
            due("18 node(" + k + ", " + what + ")", x.node(k, what), told[what]);
        }
    }

    private static void leafIs(PlaceRectangles x, int k, int box) {
        nodeIs(x, k, NONE, box, NONE, NONE);
    }

    /** Boxes with sides and a place each, laid in the bin of 10. */
    private static PlaceRectangles laid(int[]... boxes) {
        PlaceRectangles x = new PlaceRectangles();
        for (int[] box : boxes) {
            x.box(box[0], box[1], box[2]);
        }
        for (int k = 0; k < boxes.length; k++) {
            x.lay(k, 0, boxes[k][3], boxes[k][4], boxes[k][5]);
        }
        return x;
    }

    private static int[] row(int... numbers) {
        return numbers;
    }

    private static void noBoxAndOneBox() {
        PlaceRectangles x = new PlaceRectangles();
        due("17 no box", x.tree(), 0);
        due("18 no node", x.node(0, 0), NONE);
        x.box(10, 10, 10);
        due("17 none laid", x.tree(), 0);
        due("18 none laid", x.node(0, 1), NONE);
        x.lay(0, 0, 0, 0, 0);
        due("17 one box", x.tree(), 1);
        leafIs(x, 0, 0);
        for (int what = 0; what < 4; what++) {
            due("18 no second node", x.node(1, what), NONE);
            due("18 no fifteenth node", x.node(14, what), NONE);
        }
    }

    private static void leastPlaceFirstAxis() {
        PlaceRectangles x = laid(row(1, 1, 1, 9, 9, 9), row(1, 1, 1, 0, 0, 0), row(1, 1, 1, 5, 5, 5));
        due("17 three boxes", x.tree(), 5);
        nodeIs(x, 0, 0, 1, 1, 2);
        leafIs(x, 1, 1);
        nodeIs(x, 2, 0, 6, 3, 4);
        leafIs(x, 3, 2);
        leafIs(x, 4, 0);
        PlaceRectangles y = laid(row(10, 1, 10, 0, 4, 0), row(10, 1, 10, 0, 0, 0));
        nodeIs(y, 0, 1, 1, 1, 2);
        leafIs(y, 1, 1);
        PlaceRectangles z = laid(row(10, 10, 3, 0, 0, 0), row(10, 10, 7, 0, 0, 3));
        nodeIs(z, 0, 2, 3, 1, 2);
        leafIs(z, 2, 1);
    }

    private static void gapBetween() {
        PlaceRectangles x = laid(row(2, 2, 2, 1, 0, 0), row(2, 2, 2, 8, 0, 0));
        nodeIs(x, 0, 0, 3, 1, 2);
        PlaceRectangles y = laid(row(2, 2, 2, 0, 0, 0), row(2, 2, 2, 1, 5, 0));
        nodeIs(y, 0, 1, 2, 1, 2);
    }

    /** A cut on axis 0, its first tree of two boxes cut on axis 1, its second one on axis 2. */
    private static void nodesInOrder() {
        PlaceRectangles x = laid(row(5, 5, 5, 5, 0, 5), row(5, 5, 5, 0, 5, 0),
                row(5, 5, 5, 5, 0, 0), row(5, 5, 5, 0, 0, 0));
        due("17 four boxes", x.tree(), 7);
        nodeIs(x, 0, 0, 5, 1, 4);
        nodeIs(x, 1, 1, 5, 2, 3);
        leafIs(x, 2, 3);
        leafIs(x, 3, 1);
        nodeIs(x, 4, 2, 5, 5, 6);
        leafIs(x, 5, 2);
        leafIs(x, 6, 0);
        due("18 no more", x.node(7, 0), NONE);
    }

    private static final int[][] WHEEL = {
        {2, 1, 1, 0, 0, 0}, {1, 2, 1, 2, 0, 0}, {2, 1, 1, 1, 2, 0}, {1, 2, 1, 0, 1, 0}
    };

    private static void pinwheel() {
        PlaceRectangles x = laid(WHEEL);
        due("17 no cut can be", x.tree(), 0);
        due("18 no node", x.node(0, 0), NONE);
        x.lift(2);
        due("17 without one of them", x.tree(), 5);
        nodeIs(x, 0, 0, 2, 1, 4);
        nodeIs(x, 1, 1, 1, 2, 3);
        leafIs(x, 2, 0);
        leafIs(x, 3, 3);
        leafIs(x, 4, 1);
    }

    private static void pinwheelInside() {
        PlaceRectangles x = laid(WHEEL[0], WHEEL[1], WHEEL[2], WHEEL[3], row(1, 1, 1, 9, 9, 9));
        due("17 one cut can be, the next one can't", x.tree(), 0);
        due("18 also no first node", x.node(0, 0), NONE);
        due("18 nor a leaf", x.node(1, 1), NONE);
    }

    private static void eightInARow() {
        PlaceRectangles x = new PlaceRectangles();
        for (int k = 0; k < 8; k++) {
            x.box(1, 1, 1);
        }
        for (int k = 0; k < 8; k++) {
            x.lay(k, 0, 9 - k, 0, 0);
        }
        due("17 eight", x.tree(), 15);
        for (int k = 0; k < 7; k++) {
            nodeIs(x, 2 * k, 0, 3 + k, 2 * k + 1, 2 * k + 2);
            leafIs(x, 2 * k + 1, 7 - k);
        }
        leafIs(x, 14, 0);
    }

    /** Each cut takes one slab off the end, on axes 0 and 1 in turns, so that all first trees nest. */
    private static void nestedSlabs() {
        PlaceRectangles x = new PlaceRectangles();
        int wide = 10, deep = 10;
        int[] places = new int[7];
        for (int k = 0; k < 7; k++) {
            boolean across = k % 2 == 0;
            x.box(across ? 1 : wide, across ? deep : 1, 1);
            places[k] = across ? --wide : --deep;
        }
        x.box(wide, deep, 1);
        for (int k = 0; k < 7; k++) {
            x.lay(k, 0, k % 2 == 0 ? places[k] : 0, k % 2 == 0 ? 0 : places[k], 0);
        }
        due("17 no overlap", x.lay(7, 0, 0, 0, 0), 0);
        due("17 eight", x.tree(), 15);
        for (int k = 0; k < 7; k++) {
            nodeIs(x, k, k % 2, places[k], k + 1, 14 - k);
            leafIs(x, 14 - k, k);
        }
        leafIs(x, 7, 7);
    }

    private static void changesWithWhatIsLaid() {
        PlaceRectangles x = laid(row(2, 2, 2, 0, 0, 0), row(2, 2, 2, 4, 0, 0));
        due("17 two", x.tree(), 3);
        nodeIs(x, 0, 0, 2, 1, 2);
        x.lay(0, 0, 8, 0, 0);
        nodeIs(x, 0, 0, 6, 1, 2);
        leafIs(x, 1, 1);
        x.lift(1);
        leafIs(x, 0, 0);
        x.run(20000);
        x.plan();
        nodeIs(x, 0, 0, 2, 1, 2);
        x.bin(10, 10, 10);
        due("18 nothing is laid", x.node(0, 0), NONE);
    }

    private static void refusals() {
        PlaceRectangles x = laid(row(2, 2, 2, 0, 0, 0), row(2, 2, 2, 1, 0, 0));
        due("17 they overlap", x.tree(), STATE);
        for (int k = 0; k < 15; k++) {
            for (int what = 0; what < 4; what++) {
                due("18 they overlap", x.node(k, what), STATE);
            }
        }
        for (int k : new int[] {-1, 15, Integer.MIN_VALUE, Integer.MAX_VALUE}) {
            due("18 k = " + k, x.node(k, 0), BAD);
        }
        for (int what : new int[] {-1, 4, Integer.MIN_VALUE, Integer.MAX_VALUE}) {
            due("18 what = " + what, x.node(0, what), BAD);
        }
        x.lift(1);
        due("17 no more", x.tree(), 1);
        due("18 BAD is ahead of NONE", x.node(1, 4), BAD);
        due("18 k = 15", x.node(15, 0), BAD);
    }
}
