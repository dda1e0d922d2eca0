/** The words about trees, and promises 17 and 18. */
final class TreeSentences {
    private static final int BAD = Given.BAD, STATE = Given.STATE, NONE = Given.NONE;
    /** Four boxes around a hole: no cut can be. */
    private static final int[][] WHEEL = {
        {2, 1, 1, 0, 0, 0}, {1, 2, 1, 2, 0, 0}, {2, 1, 1, 1, 2, 0}, {1, 2, 1, 0, 1, 0}
    };

    private TreeSentences() {
    }

    static void all(Sentences s) {
        noneOverlap(s);
        leaf(s);
        firstAxis(s);
        leastPlace(s);
        placeOfCut(s);
        someOfBothKinds(s);
        firstAndSecond(s);
        numbers(s);
        numbersOfEight(s);
        promise17(s);
        promise17None(s);
        promise17State(s);
        promise18(s);
        promise18Now(s);
        promise18Bad(s);
        promise18State(s);
        promise18None(s);
    }

    private static void nodeIs(Sentences s, PlaceRectangles x, int k, int axis, int place, int first, int second) {
        int[] due = {axis, place, first, second};
        for (int what = 0; what < 4; what++) {
            s.due("node(" + k + ", " + what + ")", x.node(k, what), due[what]);
        }
    }

    private static void leafIs(Sentences s, PlaceRectangles x, int k, int box) {
        nodeIs(s, x, k, NONE, box, NONE, NONE);
    }

    private static void noneOverlap(Sentences s) {
        s.sentence("Terms", "A TREE of the laid boxes, if none of them overlap:");
        PlaceRectangles x = Given.laid(Given.of(2, 2, 2, 0, 0, 0), Given.of(2, 2, 2, 2, 0, 0),
                Given.of(1, 1, 1, 9, 9, 9));
        s.due("they touch: tree()", x.tree(), 5);
        x.lay(1, 0, 1, 0, 0);
        s.due("two of three overlap: tree()", x.tree(), STATE);
        x.lift(1);
        s.due("one of these is lifted: tree()", x.tree(), 3);
    }

    private static void leaf(Sentences s) {
        s.sentence("Terms", "of one box a LEAF;");
        PlaceRectangles x = Given.bin(10, 10, 10, Given.times(8, 10, 10, 10));
        for (int box = 0; box < 8; box++) {
            x.lay(box, 0, 0, 0, 0);
            s.due("box " + box + " alone: tree()", x.tree(), 1);
            leafIs(s, x, 0, box);
            x.lift(box);
        }
    }

    private static void firstAxis(Sentences s) {
        s.sentence("Terms", "of more of them a CUT: on the first axis,");
        for (int k = 1; k < 8; k++) {
            // Apart on the axes whose bits are set, side by side on the others.
            int a = (k & 1) * 5, b = (k >> 1 & 1) * 5, c = (k >> 2) * 5;
            PlaceRectangles x = Given.laid(Given.of(2, 2, 2, a, b, c), Given.of(2, 2, 2, 0, 0, 0));
            s.due("tree()", x.tree(), 3);
            nodeIs(s, x, 0, a > 0 ? 0 : b > 0 ? 1 : 2, 2, 1, 2);
            leafIs(s, x, 1, 1);
            leafIs(s, x, 2, 0);
        }
        // On axis 0 it can be at 6, on axis 1 at 1: the axis is ahead of the place.
        PlaceRectangles y = Given.laid(Given.of(6, 1, 1, 0, 0, 0), Given.of(6, 1, 1, 0, 1, 0),
                Given.of(1, 1, 1, 6, 0, 0));
        nodeIs(s, y, 0, 0, 6, 1, 4);
        nodeIs(s, y, 1, 1, 1, 2, 3);
    }

    private static void leastPlace(Sentences s) {
        s.sentence("Terms", "and there at the least place, at which it can be:");
        for (int axis = 0; axis < 3; axis++) {
            int[][] boxes = new int[3][];
            for (int box = 0; box < 3; box++) {
                boxes[box] = Given.of(2, 2, 2, 0, 0, 0);
                boxes[box][3 + axis] = Given.of(7, 1, 4)[box];
            }
            PlaceRectangles x = Given.laid(boxes);
            s.due("tree()", x.tree(), 5);
            // They begin at 1, 4, 7 and end at 3, 6, 9: of the gap 3 .. 4 the least.
            nodeIs(s, x, 0, axis, 3, 1, 2);
            leafIs(s, x, 1, 1);
            nodeIs(s, x, 2, axis, 6, 3, 4);
            leafIs(s, x, 3, 2);
            leafIs(s, x, 4, 0);
        }
        PlaceRectangles far = Given.bin(20, 20, 20, Given.of(1, 1, 1), Given.of(1, 1, 1), Given.of(19, 1, 1));
        far.lay(0, 0, 19, 19, 19);
        far.lay(1, 0, 0, 0, 0);
        nodeIs(s, far, 0, 0, 1, 1, 2);
        far.lay(2, 0, 0, 1, 0);
        nodeIs(s, far, 0, 0, 19, 1, 4);
        far.lift(1);
        nodeIs(s, far, 0, 0, 19, 1, 2);
    }

    private static void placeOfCut(Sentences s) {
        s.sentence("Terms", "each of these boxes ends there or before, or begins there or behind,");
        PlaceRectangles x = Given.laid(Given.of(3, 1, 1, 0, 0, 0), Given.of(3, 1, 1, 3, 0, 0),
                Given.of(2, 1, 1, 2, 1, 0));
        // On axis 0 box 2 lies across 3: the cut can only be on axis 1.
        s.due("tree()", x.tree(), 5);
        nodeIs(s, x, 0, 1, 1, 1, 4);
        nodeIs(s, x, 1, 0, 3, 2, 3);
        leafIs(s, x, 4, 2);
        x.lay(2, 0, 1, 1, 0);
        // Now it ends at 3, where box 1 begins.
        nodeIs(s, x, 0, 0, 3, 1, 4);
        nodeIs(s, x, 1, 1, 1, 2, 3);
        leafIs(s, x, 4, 1);
        x.lay(2, 0, 3, 1, 0);
        // Now it begins at 3, where box 0 ends.
        nodeIs(s, x, 0, 0, 3, 1, 2);
        leafIs(s, x, 1, 0);
        nodeIs(s, x, 2, 1, 1, 3, 4);
    }

    private static void someOfBothKinds(Sentences s) {
        s.sentence("Terms", "and there are some of both kinds;");
        // At 0, 1 and 2 all are behind; the bin's end has none behind.
        PlaceRectangles x = Given.laid(Given.of(8, 1, 1, 2, 0, 0), Given.of(8, 1, 1, 2, 9, 0));
        nodeIs(s, x, 0, 1, 1, 1, 2);
        PlaceRectangles y = Given.laid(Given.of(3, 1, 1, 2, 0, 0), Given.of(3, 1, 1, 2, 0, 4));
        // On axes 0 and 1 both are behind 0, and before 5 and 1.
        nodeIs(s, y, 0, 2, 1, 1, 2);
        s.due("no cut has none on one side: tree()", y.tree(), 3);
    }

    private static void firstAndSecond(Sentences s) {
        s.sentence("Terms", "its first tree is that of those before, its second one that of the others.");
        PlaceRectangles x = Given.laid(Given.of(1, 1, 1, 5, 0, 0), Given.of(1, 1, 1, 4, 0, 0));
        nodeIs(s, x, 0, 0, 5, 1, 2);
        leafIs(s, x, 1, 1);
        leafIs(s, x, 2, 0);
        x.lay(0, 0, 3, 0, 0);
        nodeIs(s, x, 0, 0, 4, 1, 2);
        leafIs(s, x, 1, 0);
        leafIs(s, x, 2, 1);
    }

    private static void numbers(Sentences s) {
        s.sentence("Terms",
                "Its NODES are numbered from 0 on: a cut, then all of its first tree, then all of its second one.");
        PlaceRectangles x = Given.laid(Given.of(5, 5, 5, 5, 0, 5), Given.of(5, 5, 5, 0, 5, 0),
                Given.of(5, 5, 5, 5, 0, 0), Given.of(5, 5, 5, 0, 0, 0));
        s.due("tree()", x.tree(), 7);
        nodeIs(s, x, 0, 0, 5, 1, 4);
        nodeIs(s, x, 1, 1, 5, 2, 3);
        leafIs(s, x, 2, 3);
        leafIs(s, x, 3, 1);
        nodeIs(s, x, 4, 2, 5, 5, 6);
        leafIs(s, x, 5, 2);
        leafIs(s, x, 6, 0);
    }

    /** Eight boxes, once each second tree and once each first tree having all that is left. */
    private static void numbersOfEight(Sentences s) {
        s.sentence("Terms", "a cut, then all of its first tree, then all of its second one.");
        PlaceRectangles row = Given.bin(8, 1, 1, Given.times(8, 1, 1, 1));
        for (int box = 0; box < 8; box++) {
            row.lay(box, 0, 7 - box, 0, 0);
        }
        s.due("tree()", row.tree(), 15);
        for (int k = 0; k < 7; k++) {
            nodeIs(s, row, 2 * k, 0, 1 + k, 2 * k + 1, 2 * k + 2);
            leafIs(s, row, 2 * k + 1, 7 - k);
        }
        leafIs(s, row, 14, 0);
        // Slabs off the end, on axes 0 and 1 in turns: each lies across all that were taken off before.
        int[][] slabs = {{1, 9, 8, 0}, {8, 1, 0, 8}, {1, 8, 7, 0}, {7, 1, 0, 7}, {1, 7, 6, 0}, {6, 1, 0, 6},
                {1, 6, 5, 0}, {5, 6, 0, 0}};
        PlaceRectangles nest = Given.bin(9, 9, 1);
        for (int[] slab : slabs) {
            nest.box(slab[0], slab[1], 1);
        }
        for (int box = 0; box < 8; box++) {
            s.due("they do not overlap", nest.lay(box, 0, slabs[box][2], slabs[box][3], 0), 0);
        }
        s.due("tree()", nest.tree(), 15);
        for (int k = 0; k < 7; k++) {
            nodeIs(s, nest, k, k % 2, Math.max(slabs[k][2], slabs[k][3]), k + 1, 14 - k);
            leafIs(s, nest, 14 - k, k);
        }
        leafIs(s, nest, 7, 7);
    }

    private static void promise17(Sentences s) {
        s.sentence("Promise 17", "THE TREE of the laid boxes: how many nodes;");
        PlaceRectangles x = Given.bin(8, 1, 1, Given.times(8, 1, 1, 1));
        for (int box = 0; box < 8; box++) {
            x.lay(box, 0, box, 0, 0);
            s.due("of " + (box + 1) + " boxes", x.tree(), 2 * box + 1);
        }
        x.lift(3);
        s.due("one lifted", x.tree(), 13);
        x.weight(0, 0);
        s.due("weights do not matter", x.tree(), 13);
        x.run(20000);
        s.due("as long as none of THE PLAN is laid", x.tree(), 13);
        x.plan();
        s.due("of all boxes", x.tree(), 15);
    }

    private static void promise17None(Sentences s) {
        s.sentence("Promise 17", "0: there is none (of no box, or no cut can be somewhere).");
        s.due("without boxes", new PlaceRectangles().tree(), 0);
        PlaceRectangles none = Given.bin(10, 10, 10, Given.of(1, 1, 1), Given.of(1, 1, 1));
        s.due("none is laid", none.tree(), 0);
        none.lay(0, 0, 0, 0, 0);
        none.lift(0);
        s.due("one was lifted", none.tree(), 0);
        PlaceRectangles x = Given.laid(WHEEL);
        s.due("no cut can be", x.tree(), 0);
        x.lift(0);
        s.due("without one of them", x.tree(), 5);
        s.due("before a cut on axis 2", Given.laid(WHEEL[0], WHEEL[1], WHEEL[2], WHEEL[3],
                Given.of(1, 1, 1, 0, 0, 9)).tree(), 0);
        PlaceRectangles y = Given.laid(Given.of(2, 1, 1, 1, 0, 0), Given.of(1, 2, 1, 3, 0, 0),
                Given.of(2, 1, 1, 2, 2, 0), Given.of(1, 2, 1, 1, 1, 0), Given.of(1, 3, 1, 0, 0, 0));
        s.due("behind a cut on axis 0", y.tree(), 0);
        y.lift(3);
        s.due("behind a cut, without one of them", y.tree(), 7);
        PlaceRectangles z = Given.laid(WHEEL[0], WHEEL[1], WHEEL[2], WHEEL[3], Given.of(1, 1, 1, 9, 9, 9));
        s.due("before a cut on axis 0", z.tree(), 0);
        z.lift(4);
        s.due("without that box", z.tree(), 0);
        z.lift(1);
        s.due("without another one", z.tree(), 5);
    }

    private static void promise17State(Sentences s) {
        s.sentence("Promise 17", "STATE: some overlap.");
        PlaceRectangles x = Given.laid(Given.of(2, 2, 2, 0, 0, 0), Given.of(2, 2, 2, 1, 1, 1));
        s.due("with a cell in common", x.tree(), STATE);
        x.lay(1, 0, 0, 0, 0);
        s.due("at one place", x.tree(), STATE);
        x.lay(1, 0, 1, 1, 2);
        s.due("they touch", x.tree(), 3);
        PlaceRectangles y = Given.laid(WHEEL[0], WHEEL[1], WHEEL[2], WHEEL[3], Given.of(1, 1, 1, 0, 0, 0));
        s.due("also where no cut can be", y.tree(), STATE);
        PlaceRectangles z = Given.laid(apartButTheLastTwo());
        s.due("the last two of eight", z.tree(), STATE);
    }

    private static int[][] apartButTheLastTwo() {
        int[][] boxes = new int[8][];
        for (int box = 0; box < 8; box++) {
            boxes[box] = Given.of(1, 1, 1, Math.min(box, 6), 0, 0);
        }
        return boxes;
    }

    private static void promise18(Sentences s) {
        s.sentence("Promise 18", "what = 0 its axis, NONE of a leaf; 1 the cut's place, or the leaf's box;"
                + " 2, 3 the first node of its first, second tree (NONE of a leaf).");
        PlaceRectangles x = Given.laid(Given.of(1, 1, 1, 0, 0, 0), Given.of(1, 1, 1, 4, 0, 0),
                Given.of(1, 1, 1, 0, 0, 3),
                Given.of(1, 1, 1, 4, 7, 0));
        nodeIs(s, x, 0, 0, 1, 1, 4);
        nodeIs(s, x, 1, 2, 1, 2, 3);
        leafIs(s, x, 2, 0);
        leafIs(s, x, 3, 2);
        nodeIs(s, x, 4, 1, 1, 5, 6);
        leafIs(s, x, 5, 1);
        leafIs(s, x, 6, 3);
    }

    private static void promise18Now(Sentences s) {
        s.sentence("Promise 18", "Node k of the tree that tree() would tell now:");
        PlaceRectangles x = Given.laid(Given.of(2, 2, 2, 0, 0, 0), Given.of(2, 2, 2, 4, 0, 0));
        nodeIs(s, x, 0, 0, 2, 1, 2);
        s.due("tree()", x.tree(), 3);
        x.lay(0, 0, 8, 0, 0);
        nodeIs(s, x, 0, 0, 6, 1, 2);
        leafIs(s, x, 1, 1);
        x.lift(1);
        leafIs(s, x, 0, 0);
        s.due("node(1, 0)", x.node(1, 0), NONE);
        x.run(20000);
        leafIs(s, x, 0, 0);
        x.plan();
        nodeIs(s, x, 0, 0, 2, 1, 2);
        leafIs(s, x, 1, 0);
        x.turns(0, 1);
        s.due("nothing is laid: node(0, 0)", x.node(0, 0), NONE);
    }

    private static void promise18Bad(Sentences s) {
        s.sentence("Promise 18", "BAD: another what, k is not 0 .. 14.");
        PlaceRectangles[] states = {new PlaceRectangles(), Given.laid(Given.of(1, 1, 1, 0, 0, 0)),
            Given.laid(Given.of(1, 1, 1, 0, 0, 0), Given.of(1, 1, 1, 0, 0, 0)), Given.laid(WHEEL)};
        for (PlaceRectangles x : states) {
            for (int k : Given.wild(-1, 15)) {
                s.due("node(" + k + ", 0)", x.node(k, 0), BAD);
                s.due("node(" + k + ", 3)", x.node(k, 3), BAD);
            }
            for (int what : Given.wild(-1, 4)) {
                s.due("node(0, " + what + ")", x.node(0, what), BAD);
                s.due("node(14, " + what + ")", x.node(14, what), BAD);
            }
            s.isTrue("node(14, 3) is not BAD", x.node(14, 3) != BAD);
            s.isTrue("node(0, 0) is not BAD", x.node(0, 0) != BAD);
        }
    }

    private static void promise18State(Sentences s) {
        s.sentence("Promise 18", "STATE: some overlap.");
        PlaceRectangles x = Given.laid(Given.of(2, 2, 2, 0, 0, 0), Given.of(2, 2, 2, 1, 1, 1));
        PlaceRectangles y = Given.laid(apartButTheLastTwo());
        for (int k = 0; k <= 14; k++) {
            for (int what = 0; what <= 3; what++) {
                s.due("of two: node(" + k + ", " + what + ")", x.node(k, what), STATE);
                s.due("of eight: node(" + k + ", " + what + ")", y.node(k, what), STATE);
            }
        }
        x.lay(1, 0, 2, 0, 0);
        s.due("they touch", x.node(0, 0), 0);
    }

    private static void promise18None(Sentences s) {
        s.sentence("Promise 18", "NONE: it has no such node.");
        PlaceRectangles row = Given.bin(8, 1, 1, Given.times(8, 1, 1, 1));
        PlaceRectangles wheel = Given.laid(WHEEL);
        PlaceRectangles none = new PlaceRectangles();
        for (int what = 0; what <= 3; what++) {
            for (int k = 0; k <= 14; k++) {
                s.due("of no box: node(" + k + ", " + what + ")", none.node(k, what), NONE);
                s.due("no cut can be: node(" + k + ", " + what + ")", wheel.node(k, what), NONE);
            }
        }
        for (int box = 0; box < 8; box++) {
            row.lay(box, 0, box, 0, 0);
            s.due("of " + (box + 1) + " the last node is a leaf", row.node(2 * box, 1), box);
            for (int k = 2 * box + 1; k <= 14; k++) {
                s.due("of " + (box + 1) + ": node(" + k + ", 1)", row.node(k, 1), NONE);
            }
        }
        PlaceRectangles behind = Given.laid(WHEEL[0], WHEEL[1], WHEEL[2], WHEEL[3], Given.of(1, 1, 1, 9, 9, 9));
        s.due("a cut can be, but not the next one: node(0, 0)", behind.node(0, 0), NONE);
        s.due("a cut can be, but not the next one: node(1, 1)", behind.node(1, 1), NONE);
    }
}
