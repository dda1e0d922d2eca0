/** The words about what is laid, and promises 10 to 16. */
final class LaidSentences {
    private static final int BAD = Given.BAD, STATE = Given.STATE, NONE = Given.NONE;
    private static final int LEAST = Given.LEAST, MOST = Given.MOST;

    private LaidSentences() {
    }

    static void all(Sentences s) {
        laid(s);
        promise10(s);
        promise10Bad(s);
        promise11(s);
        promise11Bad(s);
        promise11State(s);
        promise12(s);
        promise12None(s);
        promise12Bad(s);
        promise13(s);
        promise14(s);
        promise14First(s);
        promise14None(s);
        promise14Bad(s);
        promise14State(s);
        promise15Ground(s);
        promise15Sum(s);
        promise15Bad(s);
        promise15State(s);
        promise16(s);
        promise16LowestTerms(s);
        promise16NoWeight(s);
        promise16Bad(s);
    }

    private static void placeIs(Sentences s, PlaceRectangles x, int box, int... place) {
        for (int what = 0; what < place.length; what++) {
            s.due("place(" + box + ", " + what + ")", x.place(box, what), place[what]);
        }
    }

    /** The bin of 10 with so many boxes of 4, 3, 2. */
    private static PlaceRectangles boxes(int count) {
        return Given.bin(10, 10, 10, Given.times(count, 4, 3, 2));
    }

    private static void laid(Sentences s) {
        s.sentence("Terms", "LAID boxes have a place: by lay(), or as in THE PLAN.");
        PlaceRectangles x = boxes(2);
        s.due("at first it is not laid", x.place(0, 0), NONE);
        x.lay(0, 0, 1, 2, 3);
        placeIs(s, x, 0, 1, 2, 3, 0, 4, 3, 2);
        x.run(20000);
        s.due("run() lays nothing", x.place(1, 0), NONE);
        placeIs(s, x, 0, 1, 2, 3, 0, 4, 3, 2);
        x.plan();
        placeIs(s, x, 0, 0, 0, 0, 0, 4, 3, 2);
        placeIs(s, x, 1, 4, 0, 0, 0, 4, 3, 2);
    }

    private static void promise10(Sentences s) {
        s.sentence("Promise 10", "A box is laid at a place (also one that is laid already, elsewhere):"
                + " how many pairs of laid boxes overlap then.");
        PlaceRectangles x = boxes(8);
        for (int box = 0; box < 8; box++) {
            s.due("all at one place", x.lay(box, 0, 3, 3, 3), box * (box + 1) / 2);
        }
        s.due("one of them elsewhere", x.lay(7, 0, 0, 0, 0), 21);
        placeIs(s, x, 7, 0, 0, 0, 0);
        s.due("at its own place again", x.lay(7, 0, 0, 0, 0), 21);
        s.due("back again", x.lay(7, 0, 3, 3, 3), 28);
        s.due("with a cell of each in common", x.lay(7, 0, 6, 5, 4), 28);
        s.due("beside them", x.lay(7, 0, 6, 5, 5), 21);
        PlaceRectangles y = boxes(3);
        s.due("one alone", y.lay(1, 0, 0, 0, 0), 0);
        s.due("it touches", y.lay(2, 0, 4, 0, 0), 0);
        s.due("with both", y.lay(0, 0, 2, 0, 0), 2);
        y.turns(0, 63);
        y.lay(0, 5, 8, 7, 6);
        placeIs(s, y, 0, 8, 7, 6, 5, 2, 3, 4);
        y.lay(0, 2, 0, 1, 2);
        placeIs(s, y, 0, 0, 1, 2, 2, 3, 4, 2);
    }

    private static void promise10Bad(Sentences s) {
        s.sentence("Promise 10", "BAD: no such box; it is no place.");
        PlaceRectangles x = boxes(2);
        x.turns(0, 9);
        x.lay(0, 3, 1, 2, 3);
        for (int box : Given.wild(-1, 2)) {
            s.due("box " + box, x.lay(box, 0, 0, 0, 0), BAD);
        }
        for (int turn : Given.wild(-1, 6)) {
            s.due("turn " + turn, x.lay(0, turn, 0, 0, 0), BAD);
        }
        for (int turn : Given.of(1, 2, 4, 5, 35)) {
            s.due("a turn that it has not, " + turn, x.lay(0, turn, 0, 0, 0), BAD);
        }
        for (int n : Given.wild(-1, 10)) {
            s.due("x = " + n, x.lay(0, 0, n, 0, 0), BAD);
            s.due("y = " + n, x.lay(0, 0, 0, n, 0), BAD);
            s.due("z = " + n, x.lay(0, 0, 0, 0, n), BAD);
        }
        s.due("beyond on axis 0", x.lay(0, 0, 7, 7, 8), BAD);
        s.due("beyond on axis 1", x.lay(0, 0, 6, 8, 8), BAD);
        s.due("beyond on axis 2", x.lay(0, 0, 6, 7, 9), BAD);
        placeIs(s, x, 0, 1, 2, 3, 3, 3, 2, 4);
        s.due("none else is laid", x.place(1, 0), NONE);
        s.due("the last place", x.lay(0, 0, 6, 7, 8), 0);
        s.due("the last place by turn 3", x.lay(0, 3, 7, 8, 6), 0);
        s.due("not by turn 0", x.lay(1, 0, 7, 8, 6), BAD);
    }

    private static void promise11(Sentences s) {
        s.sentence("Promise 11", "A box is laid no more: 0.");
        PlaceRectangles x = boxes(8);
        for (int box = 0; box < 8; box++) {
            x.lay(box, 0, 3, 3, 3);
        }
        for (int box = 0; box < 8; box++) {
            s.due("lift(" + box + ")", x.lift(box), 0);
            s.due("place(" + box + ", 0)", x.place(box, 0), NONE);
            s.due("overlaps()", x.overlaps(), (7 - box) * (6 - box) / 2);
            if (box < 7) {
                s.due("the next one stays", x.place(box + 1, 0), 3);
            }
        }
        s.due("laid anew", x.lay(0, 0, 1, 1, 1), 0);
        s.due("and lifted", x.lift(0), 0);
        x.run(20000);
        x.plan();
        s.due("as in THE PLAN, lifted", x.lift(0), 0);
        s.due("place(0, 0)", x.place(0, 0), NONE);
        s.due("THE PLAN stays", x.plan(), 8);
        s.due("place(0, 0)", x.place(0, 0), 0);
    }

    private static void promise11Bad(Sentences s) {
        s.sentence("Promise 11", "BAD.");
        PlaceRectangles x = boxes(2);
        x.lay(0, 0, 1, 2, 3);
        x.lay(1, 0, 1, 2, 3);
        for (int box : Given.wild(-1, 2)) {
            s.due("lift(" + box + ")", x.lift(box), BAD);
        }
        placeIs(s, x, 0, 1, 2, 3);
        placeIs(s, x, 1, 1, 2, 3);
        s.due("without boxes", new PlaceRectangles().lift(0), BAD);
    }

    private static void promise11State(Sentences s) {
        s.sentence("Promise 11", "STATE: it is not.");
        PlaceRectangles x = boxes(2);
        s.due("never laid", x.lift(0), STATE);
        x.lay(0, 0, 0, 0, 0);
        s.due("another one is", x.lift(1), STATE);
        placeIs(s, x, 0, 0, 0, 0);
        x.lift(0);
        s.due("lifted already", x.lift(0), STATE);
        x.lay(0, 0, 0, 0, 0);
        x.bin(10, 10, 10);
        s.due("anew, nothing is", x.lift(0), STATE);
    }

    private static void promise12(Sentences s) {
        s.sentence("Promise 12", "Of a laid box: 0 .. 2 its coordinate on that axis, 3 its turn, 4 .. 6 its extents;");
        int[][] extents = {{4, 3, 2}, {4, 2, 3}, {3, 4, 2}, {3, 2, 4}, {2, 4, 3}, {2, 3, 4}};
        PlaceRectangles x = boxes(8);
        for (int box = 0; box < 8; box++) {
            x.turns(box, 63);
        }
        for (int box = 0; box < 8; box++) {
            x.lay(box, box % 6, 10 - extents[box % 6][0], box % 3, 10 - extents[box % 6][2]);
        }
        for (int box = 0; box < 8; box++) {
            int[] e = extents[box % 6];
            placeIs(s, x, box, 10 - e[0], box % 3, 10 - e[2], box % 6, e[0], e[1], e[2]);
        }
        PlaceRectangles cube = Given.bin(2, 2, 2, Given.of(2, 2, 2));
        cube.turns(0, 63);
        cube.lay(0, 5, 0, 0, 0);
        s.due("a turn with the extents of another one", cube.place(0, 3), 5);
        PlaceRectangles large = Given.bin(20, 20, 20, Given.of(20, 20, 20), Given.of(1, 1, 1));
        large.lay(0, 0, 0, 0, 0);
        large.lay(1, 0, 19, 19, 19);
        placeIs(s, large, 0, 0, 0, 0, 0, 20, 20, 20);
        placeIs(s, large, 1, 19, 19, 19, 0, 1, 1, 1);
    }

    private static void promise12None(Sentences s) {
        s.sentence("Promise 12", "NONE: it is not laid.");
        PlaceRectangles x = boxes(2);
        x.lay(0, 0, 0, 0, 0);
        x.lay(1, 0, 0, 0, 0);
        x.lift(1);
        for (int what = 0; what <= 6; what++) {
            s.due("place(1, " + what + ")", x.place(1, what), NONE);
            s.isTrue("the other one is laid", x.place(0, what) >= 0);
        }
    }

    private static void promise12Bad(Sentences s) {
        s.sentence("Promise 12", "BAD: no such box, what.");
        PlaceRectangles x = boxes(2);
        x.lay(0, 0, 1, 2, 3);
        for (int what = 0; what <= 6; what++) {
            for (int box : Given.wild(-1, 2)) {
                s.due("place(" + box + ", " + what + ")", x.place(box, what), BAD);
            }
        }
        for (int what : Given.wild(-1, 7)) {
            s.due("place(0, " + what + ")", x.place(0, what), BAD);
            s.due("of a box that is not laid: place(1, " + what + ")", x.place(1, what), BAD);
            s.due("both: place(2, " + what + ")", x.place(2, what), BAD);
        }
        s.due("without boxes", new PlaceRectangles().place(0, 0), BAD);
    }

    private static void promise13(Sentences s) {
        s.sentence("Promise 13", "How many pairs of laid boxes overlap.");
        s.due("without boxes", new PlaceRectangles().overlaps(), 0);
        PlaceRectangles x = boxes(8);
        s.due("none is laid", x.overlaps(), 0);
        x.lay(7, 0, 0, 0, 0);
        s.due("one is", x.overlaps(), 0);
        x.lay(0, 0, 0, 0, 0);
        s.due("two", x.overlaps(), 1);
        for (int box = 1; box < 7; box++) {
            x.lay(box, 0, 0, 0, 0);
        }
        s.due("all eight at one place", x.overlaps(), 28);
        x.lay(3, 0, 6, 7, 8);
        s.due("one elsewhere", x.overlaps(), 21);
        x.lift(4);
        s.due("one lifted", x.overlaps(), 15);
        x.weight(0, 0);
        s.due("also without weight", x.overlaps(), 15);
        x.lay(0, 0, 4, 0, 0);
        s.due("one beside the others", x.overlaps(), 10);
        x.lay(0, 0, 3, 2, 1);
        s.due("with one cell of each in common", x.overlaps(), 15);
        x.clear();
        s.due("without boxes", x.overlaps(), 0);
    }

    private static void relativeIs(Sentences s, PlaceRectangles x, int due, int back) {
        s.due("relative(0, 1)", x.relative(0, 1), due);
        s.due("relative(1, 0)", x.relative(1, 0), back);
    }

    private static void promise14(Sentences s) {
        s.sentence("Promise 14", "0 a ends before b begins (or there) on axis 0, 1 b before a there,"
                + " 2, 3 likewise on 1, 4, 5 on 2;");
        PlaceRectangles x = Given.bin(10, 10, 10, Given.of(2, 2, 2), Given.of(3, 3, 3));
        for (int axis = 0; axis < 3; axis++) {
            x.lay(0, 0, axis == 0 ? 0 : 4, axis == 1 ? 0 : 4, axis == 2 ? 0 : 4);
            for (int at = 1; at <= 3; at++) {
                x.lay(1, 0, axis == 0 ? at : 3, axis == 1 ? at : 3, axis == 2 ? at : 3);
                // At 1 they have a cell in common, at 2 b begins where a ends, at 3 behind it.
                relativeIs(s, x, at == 1 ? NONE : 2 * axis, at == 1 ? NONE : 2 * axis + 1);
            }
            x.lay(0, 0, axis == 0 ? 5 : 4, axis == 1 ? 5 : 4, axis == 2 ? 5 : 4);
            for (int at = 1; at <= 3; at++) {
                x.lay(1, 0, axis == 0 ? at : 3, axis == 1 ? at : 3, axis == 2 ? at : 3);
                // At 2 b ends where a begins, at 3 they have a cell in common.
                relativeIs(s, x, at == 3 ? NONE : 2 * axis + 1, at == 3 ? NONE : 2 * axis);
            }
        }
    }

    private static void promise14First(Sentences s) {
        s.sentence("Promise 14", "Of two laid boxes the first of these that holds:");
        // Which of 0 .. 5 holds on each axis: a before b, b before a, neither.
        int[] a = {0, 8, 4}, b = {8, 0, 4};
        for (int k = 0; k < 27; k++) {
            int[] kinds = {k % 3, k / 3 % 3, k / 9};
            PlaceRectangles x = Given.bin(10, 10, 10, Given.of(2, 2, 2), Given.of(2, 2, 2));
            x.lay(0, 0, a[kinds[0]], a[kinds[1]], a[kinds[2]]);
            x.lay(1, 0, b[kinds[0]], b[kinds[1]], b[kinds[2]]);
            int due = NONE, back = NONE;
            for (int axis = 2; axis >= 0; axis--) {
                due = kinds[axis] == 2 ? due : 2 * axis + kinds[axis];
                back = kinds[axis] == 2 ? back : 2 * axis + 1 - kinds[axis];
            }
            relativeIs(s, x, due, back);
        }
    }

    private static void promise14None(Sentences s) {
        s.sentence("Promise 14", "NONE: they overlap.");
        PlaceRectangles x = Given.bin(10, 10, 10, Given.of(2, 2, 2), Given.of(3, 3, 3), Given.of(1, 1, 1));
        x.lay(0, 0, 4, 4, 4);
        x.lay(1, 0, 4, 4, 4);
        relativeIs(s, x, NONE, NONE);
        x.lay(1, 0, 5, 5, 5);
        relativeIs(s, x, NONE, NONE);
        x.lay(1, 0, 2, 2, 2);
        relativeIs(s, x, NONE, NONE);
        x.lay(2, 0, 4, 5, 4);
        s.due("one within the other: relative(0, 2)", x.relative(0, 2), NONE);
        s.due("one within the other: relative(2, 0)", x.relative(2, 0), NONE);
    }

    private static void promise14Bad(Sentences s) {
        s.sentence("Promise 14", "BAD: no such box, both the same.");
        PlaceRectangles x = boxes(3);
        x.lay(0, 0, 0, 0, 0);
        x.lay(1, 0, 0, 0, 0);
        for (int box : Given.wild(-1, 3)) {
            s.due("relative(" + box + ", 0)", x.relative(box, 0), BAD);
            s.due("relative(0, " + box + ")", x.relative(0, box), BAD);
            s.due("relative(" + box + ", " + box + ")", x.relative(box, box), BAD);
            s.due("with one that is not laid: relative(2, " + box + ")", x.relative(2, box), BAD);
            s.due("with one that is not laid: relative(" + box + ", 2)", x.relative(box, 2), BAD);
        }
        for (int box = 0; box < 3; box++) {
            s.due("relative(" + box + ", " + box + ")", x.relative(box, box), BAD);
        }
    }

    private static void promise14State(Sentences s) {
        s.sentence("Promise 14", "STATE: one is not laid.");
        PlaceRectangles x = boxes(3);
        s.due("neither is", x.relative(0, 1), STATE);
        x.lay(0, 0, 0, 0, 0);
        s.due("b is not", x.relative(0, 1), STATE);
        s.due("a is not", x.relative(1, 0), STATE);
        s.due("neither is", x.relative(1, 2), STATE);
        x.lay(1, 0, 4, 0, 0);
        s.due("both are", x.relative(0, 1), 0);
        x.lift(0);
        s.due("a was lifted", x.relative(0, 1), STATE);
        s.due("b was lifted", x.relative(1, 0), STATE);
    }

    private static void promise15Ground(Sentences s) {
        s.sentence("Promise 15",
                "The area of a laid box that is held from below: all of it at coordinate 0 of axis 2;");
        PlaceRectangles x = Given.bin(20, 20, 20, Given.of(20, 20, 20), Given.of(4, 3, 2), Given.of(1, 1, 1));
        x.turns(1, 63);
        x.lay(0, 0, 0, 0, 0);
        s.due("the most", x.support(0), 400);
        x.lay(2, 0, 19, 19, 0);
        s.due("the least", x.support(2), 1);
        int[] areas = {12, 8, 12, 6, 8, 6};
        for (int turn = 0; turn < 6; turn++) {
            x.lay(1, turn, 5, 6, 0);
            s.due("by turn " + turn, x.support(1), areas[turn]);
        }
        x.lay(1, 0, 0, 0, 1);
        s.due("at 1 and with none below", x.support(1), 0);
        x.lay(1, 0, 0, 0, 18);
        s.due("at the top", x.support(1), 0);
    }

    private static void promise15Sum(Sentences s) {
        s.sentence("Promise 15", "else the sum, over the laid boxes that end just where it begins on axis 2,"
                + " of what they have in common on axes 0 and 1.");
        PlaceRectangles x = boxes(5);
        x.lay(0, 0, 4, 4, 0);
        for (int z = 1; z <= 4; z++) {
            x.lay(1, 0, 4, 4, z);
            s.due("it ends at 2, the other one begins at " + z, x.support(1), z == 2 ? 12 : 0);
        }
        int[] onAxis0 = {0, 1, 2, 3, 4, 3, 2};
        int[] onAxis1 = {0, 0, 1, 2, 3, 2, 1, 0};
        for (int at = 0; at <= 6; at++) {
            x.lay(1, 0, at, 4, 2);
            s.due("at " + at + " on axis 0", x.support(1), 3 * onAxis0[at]);
        }
        for (int at = 0; at <= 7; at++) {
            x.lay(1, 0, 4, at, 2);
            s.due("at " + at + " on axis 1", x.support(1), 4 * onAxis1[at]);
        }
        x.lay(1, 0, 0, 0, 2);
        s.due("apart on both axes", x.support(1), 0);
        x.lay(1, 0, 2, 3, 2);
        x.lay(2, 0, 0, 2, 0);
        s.due("two below: 2 * 2 and 2 * 2", x.support(1), 8);
        x.lay(3, 0, 4, 4, 0);
        s.due("two of them at one place: each by itself", x.support(1), 12);
        x.lay(2, 0, 2, 3, 0);
        x.lay(3, 0, 2, 3, 0);
        x.lay(4, 0, 2, 3, 0);
        s.due("three of them below all of it, and 2 * 2", x.support(1), 40);
        x.lift(4);
        x.lay(2, 0, 0, 2, 0);
        x.lay(3, 0, 2, 3, 1);
        s.due("one that ends above", x.support(1), 8);
        x.lay(3, 0, 2, 3, 2);
        s.due("one at its own place", x.support(1), 8);
        x.lay(3, 0, 2, 3, 4);
        s.due("one on top of it", x.support(1), 8);
        s.due("which is held by it", x.support(3), 12);
        x.lift(0);
        s.due("one lifted", x.support(1), 4);
        x.weight(2, 0);
        s.due("also without weight", x.support(1), 4);
    }

    private static void promise15Bad(Sentences s) {
        s.sentence("Promise 15", "BAD.");
        PlaceRectangles x = boxes(2);
        x.lay(0, 0, 0, 0, 0);
        for (int box : Given.wild(-1, 2)) {
            s.due("support(" + box + ")", x.support(box), BAD);
        }
        s.due("without boxes", new PlaceRectangles().support(0), BAD);
    }

    private static void promise15State(Sentences s) {
        s.sentence("Promise 15", "STATE: it is not laid.");
        PlaceRectangles x = boxes(2);
        s.due("none is", x.support(0), STATE);
        x.lay(0, 0, 0, 0, 0);
        s.due("another one is", x.support(1), STATE);
        s.due("it is", x.support(0), 12);
        x.lift(0);
        s.due("it was lifted", x.support(0), STATE);
    }

    private static void centreIs(Sentences s, PlaceRectangles x, int axis, int above, int below) {
        s.due("centre(" + axis + ", 0)", x.centre(axis, 0), above);
        s.due("centre(" + axis + ", 1)", x.centre(axis, 1), below);
    }

    private static void promise16(Sentences s) {
        s.sentence("Promise 16",
                "The centre of the laid boxes' weights on an axis (weights in the middles of the boxes)");
        PlaceRectangles x = Given.bin(20, 20, 20, Given.of(4, 3, 20), Given.of(1, 1, 1), Given.of(2, 2, 2));
        x.lay(0, 0, 0, 0, 0);
        centreIs(s, x, 0, 2, 1);
        centreIs(s, x, 1, 3, 2);
        centreIs(s, x, 2, 10, 1);
        x.lay(1, 0, 19, 19, 19);
        // Middles at 2 and 39 / 2, 3 / 2 and 39 / 2, 10 and 39 / 2.
        centreIs(s, x, 0, 43, 4);
        centreIs(s, x, 1, 21, 2);
        centreIs(s, x, 2, 59, 4);
        x.weight(0, 3);
        centreIs(s, x, 0, 51, 8);
        x.weight(2, 1000);
        centreIs(s, x, 0, 51, 8);
        x.weight(0, 0);
        centreIs(s, x, 0, 39, 2);
        x.lift(1);
        x.weight(0, 1);
        x.turns(0, 32);
        x.lay(0, 5, 0, 0, 0);
        centreIs(s, x, 0, 10, 1);
        centreIs(s, x, 2, 2, 1);
    }

    private static void promise16LowestTerms(Sentences s) {
        s.sentence("Promise 16", "in lowest terms: part = 0 above, 1 below;");
        PlaceRectangles x = Given.bin(20, 20, 20, Given.times(8, 1, 2, 3));
        for (int box = 0; box < 8; box++) {
            x.weight(box, 1000);
            x.lay(box, 0, 19, 18, 17);
        }
        centreIs(s, x, 0, 39, 2);
        centreIs(s, x, 1, 19, 1);
        centreIs(s, x, 2, 37, 2);
        x.weight(0, 999);
        x.lay(0, 0, 0, 0, 0);
        // 7000 * 39 + 999 of 2 * 7999, divided by 19.
        centreIs(s, x, 0, 14421, 842);
        // 7000 * 19 + 999 of 7999, without a divisor.
        centreIs(s, x, 1, 133999, 7999);
        PlaceRectangles y = Given.bin(20, 20, 20, Given.of(2, 2, 2), Given.of(2, 2, 2));
        y.weight(0, 6);
        y.weight(1, 9);
        y.lay(0, 0, 0, 0, 0);
        y.lay(1, 0, 5, 10, 15);
        // 1 * 6 + 6 * 9, 11 * 9, 16 * 9 of 15.
        centreIs(s, y, 0, 4, 1);
        centreIs(s, y, 1, 7, 1);
        centreIs(s, y, 2, 10, 1);
    }

    private static void promise16NoWeight(Sentences s) {
        s.sentence("Promise 16", "without any weight 0, 0.");
        PlaceRectangles x = boxes(2);
        for (int axis = 0; axis < 3; axis++) {
            centreIs(s, new PlaceRectangles(), axis, 0, 0);
            centreIs(s, x, axis, 0, 0);
        }
        x.weight(0, 0);
        x.lay(0, 0, 6, 7, 8);
        for (int axis = 0; axis < 3; axis++) {
            centreIs(s, x, axis, 0, 0);
        }
        x.lay(1, 0, 0, 0, 0);
        centreIs(s, x, 0, 2, 1);
        x.weight(1, 0);
        centreIs(s, x, 0, 0, 0);
        x.weight(1, 1);
        x.lift(1);
        centreIs(s, x, 0, 0, 0);
    }

    private static void promise16Bad(Sentences s) {
        s.sentence("Promise 16", "BAD: no such axis, part.");
        PlaceRectangles x = boxes(1);
        for (int round = 0; round < 2; round++) {
            for (int axis : Given.wild(-1, 3)) {
                s.due("centre(" + axis + ", 0)", x.centre(axis, 0), BAD);
                s.due("centre(" + axis + ", 1)", x.centre(axis, 1), BAD);
            }
            for (int part : Given.wild(-1, 2)) {
                s.due("centre(0, " + part + ")", x.centre(0, part), BAD);
                s.due("centre(2, " + part + ")", x.centre(2, part), BAD);
            }
            x.lay(0, 0, 0, 0, 0);
        }
        for (int n : Given.of(LEAST, MOST)) {
            s.due("both: centre(" + n + ", " + n + ")", x.centre(n, n), BAD);
        }
    }
}
