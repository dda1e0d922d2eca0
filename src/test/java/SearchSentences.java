/** The words about the search, and promises 7 to 9. */
final class SearchSentences {
    private static final int BAD = Given.BAD, STATE = Given.STATE, NONE = Given.NONE;
    private static final int LEAST = Given.LEAST, MOST = Given.MOST;

    private SearchSentences() {
    }

    static void all(Sentences s) {
        s.onlySaid("Terms", "SEARCH.");
        order(s);
        coordinates(s);
        coordinatesOfTurns(s);
        coordinatesInTheBin(s);
        ways(s);
        waysOfSameExtents(s);
        waysByTurns(s);
        waysByAxes(s);
        firstBox(s);
        nextBox(s);
        oneAhead(s);
        work(s);
        thePlan(s);
        closed(s);
        withoutBoxes(s);
        normalPlaces(s);
        promise7(s);
        promise7Plan(s);
        promise7Closed(s);
        promise7Neither(s);
        promise7Bad(s);
        promise8Work(s);
        promise8Order(s);
        promise8Ways(s);
        promise8Coordinates(s);
        promise8Bad(s);
        promise9(s);
        promise9State(s);
    }

    private static void orderIs(Sentences s, PlaceRectangles x, int... order) {
        for (int k = 0; k < order.length; k++) {
            s.due("told(1, " + k + ")", x.told(1, k), order[k]);
        }
        s.due("told(1, " + order.length + ")", x.told(1, order.length), BAD);
    }

    private static void order(Sentences s) {
        s.sentence("Terms", "THE ORDER of boxes: by volume, the greatest first, then by numbers.");
        orderIs(s, Given.bin(1, 1, 1, Given.of(1, 1, 1)), 0);
        orderIs(s, Given.bin(1, 1, 1, Given.of(1, 1, 1), Given.of(1, 1, 2)), 1, 0);
        orderIs(s, Given.bin(1, 1, 1, Given.of(1, 1, 2), Given.of(1, 1, 1)), 0, 1);
        orderIs(s, Given.bin(9, 9, 9, Given.of(1, 1, 12), Given.of(2, 3, 2), Given.of(12, 1, 1), Given.of(3, 4, 1)),
                0, 1, 2, 3);
        orderIs(s, Given.bin(9, 9, 9, Given.times(8, 20, 20, 20)), 0, 1, 2, 3, 4, 5, 6, 7);
        orderIs(s, Given.bin(9, 9, 9, Given.of(1, 1, 20), Given.of(3, 3, 3), Given.of(5, 2, 2), Given.of(20, 20, 20),
                Given.of(2, 2, 2), Given.of(3, 3, 3), Given.of(1, 1, 1), Given.of(20, 20, 19)), 3, 7, 1, 5, 0, 2, 4, 6);
        PlaceRectangles x = Given.bin(9, 9, 9, Given.of(1, 2, 3), Given.of(2, 2, 2));
        x.turns(0, 63);
        x.weight(0, 1000);
        orderIs(s, x, 1, 0);
    }

    private static void coordinatesAre(Sentences s, PlaceRectangles x, int box, int... counts) {
        for (int axis = 0; axis < 3; axis++) {
            s.due("box " + box + ", axis " + axis, x.told(3 + axis, box), counts[axis]);
        }
    }

    private static void coordinates(Sentences s) {
        s.sentence("Terms", "COORDINATES of a box on an axis: the sums, each once, of one extent on this axis each of"
                + " some of the other boxes (also of none: 0)");
        PlaceRectangles x = Given.bin(20, 20, 20, Given.of(7, 8, 9));
        coordinatesAre(s, x, 0, 1, 1, 1);
        x.box(2, 3, 5);
        coordinatesAre(s, x, 0, 2, 2, 2);
        coordinatesAre(s, x, 1, 2, 2, 2);
        x.box(2, 4, 5);
        // 0, 2, 4; 0, 3, 4, 7; 0, 5, 10: each once.
        coordinatesAre(s, x, 0, 3, 4, 3);
        // 0, 7, 2, 9; 0, 8, 4, 12; 0, 9, 5, 14.
        coordinatesAre(s, x, 1, 4, 4, 4);
        // 0, 7, 2, 9; 0, 8, 3, 11; 0, 9, 5, 14.
        coordinatesAre(s, x, 2, 4, 4, 4);
        PlaceRectangles y = Given.bin(20, 20, 20, Given.times(8, 1, 2, 3));
        // 0 .. 7; 0, 2 .. 14; 0, 3 .. 18, and 21 is above 20.
        coordinatesAre(s, y, 7, 8, 8, 7);
        coordinatesAre(s, y, 0, 8, 8, 7);
    }

    private static void coordinatesOfTurns(Sentences s) {
        s.sentence("Terms", "an extent being one of a turn that that box has");
        PlaceRectangles x = Given.bin(20, 20, 20, Given.of(1, 1, 1), Given.of(2, 5, 9));
        coordinatesAre(s, x, 0, 2, 2, 2);
        x.turns(1, 3);
        // Turns 0 and 1: 2 or 2; 5 or 9; 9 or 5. Not 14: one extent each.
        coordinatesAre(s, x, 0, 2, 3, 3);
        x.turns(1, 63);
        coordinatesAre(s, x, 0, 4, 4, 4);
        x.turns(1, 32);
        coordinatesAre(s, x, 0, 2, 2, 2);
        x.turns(0, 63);
        coordinatesAre(s, x, 1, 2, 2, 2);
        x.turns(1, 42);
        // Turns 1, 3 and 5: 2 9 5, 5 9 2, 9 5 2.
        coordinatesAre(s, x, 0, 4, 3, 3);
    }

    private static void coordinatesInTheBin(Sentences s) {
        s.sentence("Terms", "those of them that are not above the bin's length.");
        PlaceRectangles x = Given.bin(10, 11, 12, Given.of(1, 1, 1), Given.of(4, 4, 4), Given.of(7, 7, 7));
        // 0, 4, 7, and 11 where it is not above.
        coordinatesAre(s, x, 0, 3, 4, 4);
        x.bin(3, 4, 5);
        coordinatesAre(s, x, 0, 1, 2, 2);
        x.bin(1, 1, 1);
        coordinatesAre(s, x, 0, 1, 1, 1);
        // Of the others 1 is not above 1.
        coordinatesAre(s, x, 1, 2, 2, 2);
        PlaceRectangles y = Given.bin(20, 20, 19, Given.times(8, 20, 20, 20));
        coordinatesAre(s, y, 3, 2, 2, 1);
    }

    private static void ways(Sentences s) {
        s.sentence("Terms", "WAYS of a box: its places whose coordinates are such, by turns");
        PlaceRectangles x = Given.bin(10, 10, 10, Given.of(1, 1, 1), Given.of(2, 3, 4));
        s.due("0, 2 by 0, 3 by 0, 4", x.told(2, 0), 8);
        s.due("0, 1 on each axis", x.told(2, 1), 8);
        x.bin(3, 3, 4);
        s.due("3 and 4 leave no place on their axes", x.told(2, 0), 2);
        s.due("1 leaves a place on axis 0 alone", x.told(2, 1), 2);
        x.bin(2, 3, 4);
        s.due("as large as the bin: one way", x.told(2, 1), 1);
        x.bin(2, 3, 3);
        s.due("larger than the bin: none", x.told(2, 1), 0);
        x.bin(4, 3, 2);
        s.due("too large with its turn", x.told(2, 1), 0);
        x.turns(1, 63);
        s.due("with one of its six turns it goes in", x.told(2, 1), 1);
        x.bin(4, 4, 4);
        // Of each of the six turns: the axes of 2 and 3 have two coordinates.
        s.due("with all six", x.told(2, 1), 24);
    }

    private static void waysOfSameExtents(Sentences s) {
        s.sentence("Terms", "(of turns with the same extents the first one alone)");
        PlaceRectangles cube = Given.bin(5, 5, 5, Given.of(2, 2, 2));
        cube.turns(0, 63);
        s.due("a cube", cube.told(2, 0), 1);
        int[][] bins = {{2, 2, 3}, {2, 3, 2}, {3, 2, 2}};
        int[] firstTurns = {0, 1, 4};
        for (int k = 0; k < 3; k++) {
            PlaceRectangles x = Given.bin(bins[k][0], bins[k][1], bins[k][2], Given.of(2, 2, 3));
            x.turns(0, 63);
            s.due("two sides are the same, one way here", x.told(2, 0), 1);
            x.run(1);
            x.plan();
            s.due("it is by the first such turn", x.place(0, 3), firstTurns[k]);
            x.bin(3, 3, 3);
            s.due("two sides are the same, all turns", x.told(2, 0), 3);
            x.turns(0, 63 - (1 << firstTurns[k]));
            s.due("without that turn another one is the first", x.told(2, 0), 3);
        }
        cube.turns(0, 40);
        s.due("a cube with turns 3 and 5", cube.told(2, 0), 1);
        cube.run(1);
        cube.plan();
        s.due("the first that it has", cube.place(0, 3), 3);
        cube.turns(0, 32);
        s.due("a cube with turn 5", cube.told(2, 0), 1);
        PlaceRectangles other = Given.bin(5, 5, 5, Given.of(1, 2, 3));
        other.turns(0, 63);
        s.due("three other sides", other.told(2, 0), 6);
    }

    private static void placeIs(Sentences s, PlaceRectangles x, int box, int... place) {
        for (int what = 0; what < place.length; what++) {
            s.due("place(" + box + ", " + what + ")", x.place(box, what), place[what]);
        }
    }

    private static void waysByTurns(Sentences s) {
        s.sentence("Terms", "by turns (of turns with the same extents the first one alone), then by");
        // Beside box 0, at 0, box 1 goes to 0, 2 with turn 0, and to 2, 0 with turn 2.
        PlaceRectangles x = Given.bin(3, 5, 1, Given.of(2, 2, 1), Given.of(3, 1, 1));
        x.turns(1, 5);
        s.due("run(20000)", x.run(20000), 1);
        x.plan();
        placeIs(s, x, 0, 0, 0, 0, 0);
        placeIs(s, x, 1, 0, 2, 0, 0);
        x.turns(1, 4);
        x.run(20000);
        x.plan();
        placeIs(s, x, 1, 2, 0, 0, 2);
    }

    private static void waysByAxes(Sentences s) {
        s.sentence("Terms", "then by the coordinate on axis 2, then 1, then 0, the least first.");
        PlaceRectangles x = Given.bin(2, 2, 2, Given.times(8, 1, 1, 1));
        s.due("run(20000)", x.run(20000), 1);
        // The k-th box looks at the k places that are taken and at its own.
        s.due("told(0, 0)", x.told(0, 0), 1 + 2 + 3 + 4 + 5 + 6 + 7 + 8);
        x.plan();
        for (int box = 0; box < 8; box++) {
            placeIs(s, x, box, box % 2, box / 2 % 2, box / 4);
        }
        PlaceRectangles y = Given.bin(6, 6, 6, Given.of(3, 3, 3), Given.of(2, 2, 2), Given.of(1, 1, 1));
        y.run(20000);
        y.plan();
        placeIs(s, y, 1, 3, 0, 0);
        placeIs(s, y, 2, 5, 0, 0);
    }

    /** Boxes 1 and 2 fill the bin, so that box 0 never goes in: CLOSED by 16 ways. */
    private static PlaceRectangles fiveIntoFour() {
        return Given.bin(4, 1, 1, Given.of(1, 1, 1), Given.of(2, 1, 1), Given.of(2, 1, 1));
    }

    /** Box 0 has to go on to its second turn: THE PLAN by 8 ways. */
    private static PlaceRectangles turned() {
        PlaceRectangles x = Given.bin(3, 4, 1, Given.of(2, 3, 1), Given.of(2, 3, 1));
        x.turns(0, 5);
        x.turns(1, 5);
        return x;
    }

    private static void firstBox(Sentences s) {
        s.sentence("Terms", "The search goes through the boxes in THE ORDER: the first box's ways one by one;");
        PlaceRectangles x = Given.bin(3, 1, 1, Given.of(1, 1, 1), Given.of(2, 1, 1));
        x.run(20000);
        x.plan();
        placeIs(s, x, 1, 0);
        placeIs(s, x, 0, 2);
        // The second box has no way, so each of the first one's is looked at and no other.
        PlaceRectangles y = Given.bin(9, 9, 9, Given.of(1, 1, 10), Given.of(3, 3, 3));
        s.due("ways of the first", y.told(2, 1), 4);
        for (int way = 1; way <= 3; way++) {
            s.due("way " + way, y.run(1), 0);
            s.due("told(0, 0)", y.told(0, 0), way);
        }
        s.due("way 4, the last", y.run(1), 2);
        s.due("told(0, 0)", y.told(0, 0), 4);
    }

    private static void nextBox(Sentences s) {
        s.sentence("Terms", "a way that overlaps none of those that the boxes ahead of it have now is its,"
                + " and then the next box's ways come, from the first on;");
        // Box 1 at 0 and 1 overlaps, at 2 it touches. Box 2 at 0 overlaps box 0, at 2 box 1.
        PlaceRectangles x = Given.bin(5, 1, 1, Given.of(2, 1, 1), Given.of(2, 1, 1), Given.of(1, 1, 1));
        s.due("run(6)", x.run(6), 0);
        s.due("run(1)", x.run(1), 1);
        x.plan();
        placeIs(s, x, 0, 0);
        placeIs(s, x, 1, 2);
        placeIs(s, x, 2, 4);
        // Box 1's three ways come twice, from the first on.
        PlaceRectangles y = turned();
        s.due("ways of box 1", y.told(2, 1), 3);
        s.due("run(20000)", y.run(20000), 1);
        s.due("told(0, 0)", y.told(0, 0), 1 + 3 + 1 + 3);
        y.plan();
        placeIs(s, y, 0, 0, 0, 0, 2);
        placeIs(s, y, 1, 0, 2, 0, 2);
    }

    private static void oneAhead(Sentences s) {
        s.sentence("Terms", "when a box has no way left, the one ahead of it goes on behind its own.");
        // Box 1 at 0: box 2 at 0, 1, 2: box 0 at 0, 2. Box 1 at 1: box 2 at 0, 1, 2. Box 1 at 2: box 2 at 0:
        // box 0 at 0, 2; then box 2 at 1, 2.
        PlaceRectangles x = fiveIntoFour();
        for (int way = 1; way <= 15; way++) {
            s.due("way " + way, x.run(1), 0);
            s.due("told(0, 0)", x.told(0, 0), way);
        }
        s.due("way 16, the last", x.run(1), 2);
        s.due("told(0, 0)", x.told(0, 0), 16);
    }

    private static void work(Sentences s) {
        s.sentence("Terms", "Each way that is looked at is one WORK.");
        PlaceRectangles x = Given.bin(2, 1, 1, Given.of(1, 1, 1), Given.of(1, 1, 1));
        s.due("no way yet", x.told(0, 0), 0);
        x.run(1);
        s.due("a way that is taken", x.told(0, 0), 1);
        x.run(1);
        s.due("a way that overlaps", x.told(0, 0), 2);
        x.run(1);
        s.due("a way that is taken", x.told(0, 0), 3);
        x.run(1);
        s.due("nothing is looked at any more", x.told(0, 0), 3);
        PlaceRectangles y = turned();
        y.run(4);
        s.due("four ways", y.told(0, 0), 4);
        y.run(1);
        s.due("going back is none", y.told(0, 0), 5);
    }

    private static void thePlan(Sentences s) {
        s.sentence("Terms", "When all boxes have one, that is THE PLAN;");
        PlaceRectangles x = Given.bin(2, 1, 1, Given.of(1, 1, 1), Given.of(1, 1, 1));
        s.due("box 0 has one: run(1)", x.run(1), 0);
        s.due("plan()", x.plan(), STATE);
        s.due("box 1 has none yet: run(1)", x.run(1), 0);
        s.due("plan()", x.plan(), STATE);
        s.due("both have one: run(1)", x.run(1), 1);
        s.due("plan()", x.plan(), 2);
        PlaceRectangles one = Given.bin(1, 1, 1, Given.of(1, 1, 1));
        s.due("one box: run(1)", one.run(1), 1);
        s.due("one box: plan()", one.plan(), 1);
        PlaceRectangles eight = Given.bin(2, 2, 2, Given.times(8, 1, 1, 1));
        s.due("seven of eight: run(35)", eight.run(35), 0);
        s.due("all eight: run(1)", eight.run(1), 1);
    }

    private static void closed(Sentences s) {
        s.sentence("Terms", "when the first box has no way left, there is none (CLOSED).");
        PlaceRectangles x = Given.bin(1, 1, 1, Given.of(1, 1, 2));
        s.due("it never had one: run(1)", x.run(1), 2);
        s.due("without WORK", x.told(0, 0), 0);
        s.due("plan()", x.plan(), STATE);
        PlaceRectangles y = Given.bin(5, 1, 1, Given.of(3, 1, 1), Given.of(1, 2, 1));
        s.due("it has one left: run(1)", y.run(1), 0);
        s.due("it has none left: run(1)", y.run(1), 2);
        s.due("told(0, 0)", y.told(0, 0), 2);
        s.due("plan()", y.plan(), STATE);
        PlaceRectangles z = Given.bin(1, 1, 1, Given.times(2, 1, 1, 1));
        s.due("the second one's last way is the last of all: run(2)", z.run(2), 2);
    }

    private static void withoutBoxes(Sentences s) {
        s.sentence("Terms", "Without boxes THE PLAN is there at once.");
        PlaceRectangles x = new PlaceRectangles();
        s.due("plan()", x.plan(), 0);
        s.due("run(1)", x.run(1), 1);
        s.due("told(0, 0)", x.told(0, 0), 0);
        s.due("plan()", x.plan(), 0);
        x.box(20, 20, 20);
        s.due("with a box", x.plan(), STATE);
        x.clear();
        s.due("without it", x.plan(), 0);
        x.bin(1, 1, 1);
        s.due("in another bin", x.plan(), 0);
        s.due("run(20000)", x.run(20000), 1);
    }

    /** Whether boxes from this one on have places among all places, beside those that are laid. */
    private static boolean goesIn(int[] bin, int[][] boxes, int box, int[][] at) {
        if (box == boxes.length) {
            return true;
        }
        for (int k = 0; k < bin[0] * bin[1] * bin[2]; k++) {
            int[] place = {k % bin[0], k / bin[0] % bin[1], k / bin[0] / bin[1]};
            boolean free = true;
            for (int axis = 0; axis < 3; axis++) {
                free &= place[axis] + boxes[box][axis] <= bin[axis];
            }
            for (int other = 0; other < box; other++) {
                boolean apart = false;
                for (int axis = 0; axis < 3; axis++) {
                    apart |= place[axis] + boxes[box][axis] <= at[other][axis]
                            || at[other][axis] + boxes[other][axis] <= place[axis];
                }
                free &= apart;
            }
            at[box] = place;
            if (free && goesIn(bin, boxes, box + 1, at)) {
                return true;
            }
        }
        return false;
    }

    private static void normalPlaces(Sentences s) {
        s.sentence("Terms", "(If there are any places of all boxes without an overlap, there are such by ways.)");
        int[] bin = {3, 4, 2};
        int seen = 0;
        for (int k = 0; k < 24 * 24 * 24; k += 13) {
            int[][] boxes = new int[4][];
            for (int box = 0, left = k; box < 3; box++, left /= 24) {
                boxes[box] = Given.of(1 + left % 3, 1 + left / 3 % 4, 1 + left / 12 % 2);
            }
            boxes[3] = Given.of(1, 2, 1);
            boolean due = goesIn(bin, boxes, 0, new int[4][]);
            seen += due ? 1 : 0;
            s.due("boxes of " + java.util.Arrays.deepToString(boxes),
                    Given.bin(bin[0], bin[1], bin[2], boxes).run(20000), due ? 1 : 2);
        }
        s.isTrue("both kinds were seen", seen > 100);
    }

    private static void promise7(Sentences s) {
        s.sentence("Promise 7", "The search goes on, up to the first way that would be more WORK than told");
        for (int first = 1; first <= 17; first++) {
            PlaceRectangles x = fiveIntoFour();
            s.due("CLOSED by 16 ways: run(" + first + ")", x.run(first), first < 16 ? 0 : 2);
            s.due("told(0, 0)", x.told(0, 0), Math.min(first, 16));
            s.due("and by as many as are left", x.run(Math.max(1, 16 - first)), 2);
            s.due("told(0, 0)", x.told(0, 0), 16);
        }
        for (int first = 1; first <= 9; first++) {
            PlaceRectangles x = turned();
            s.due("THE PLAN by 8 ways: run(" + first + ")", x.run(first), first < 8 ? 0 : 1);
            s.due("told(0, 0)", x.told(0, 0), Math.min(first, 8));
            s.due("and by as many as are left", x.run(Math.max(1, 8 - first)), 1);
            s.due("told(0, 0)", x.told(0, 0), 8);
        }
        PlaceRectangles y = longSearch();
        for (int call = 1; call <= 2; call++) {
            s.due("run(20000)", y.run(20000), 0);
            s.due("told(0, 0)", y.told(0, 0), 20000 * call);
        }
        s.due("run(6871)", y.run(6871), 0);
        s.due("run(1)", y.run(1), 2);
    }

    /** CLOSED by 46872 ways. */
    private static PlaceRectangles longSearch() {
        return Given.bin(20, 20, 20, Given.of(11, 11, 11), Given.of(10, 10, 10), Given.of(9, 9, 9),
                Given.of(8, 8, 8), Given.of(7, 7, 7), Given.of(6, 6, 6), Given.of(5, 5, 5), Given.of(11, 11, 11));
    }

    private static void promise7Plan(Sentences s) {
        s.sentence("Promise 7", "1 THE PLAN is there (also from before: nothing is done then)");
        PlaceRectangles x = turned();
        s.due("run(8)", x.run(8), 1);
        for (int work : Given.of(1, 8, 20000)) {
            s.due("from before: run(" + work + ")", x.run(work), 1);
            s.due("nothing is done: told(0, 0)", x.told(0, 0), 8);
            s.due("nothing is laid: place(0, 0)", x.place(0, 0), NONE);
        }
        x.plan();
        x.lay(0, 0, 0, 0, 0);
        s.due("from before: run(1)", x.run(1), 1);
        s.due("nothing is laid: place(0, 3)", x.place(0, 3), 0);
        s.due("THE PLAN is the same: plan()", x.plan(), 2);
        placeIs(s, x, 0, 0, 0, 0, 2);
        placeIs(s, x, 1, 0, 2, 0, 2);
    }

    private static void promise7Closed(Sentences s) {
        s.sentence("Promise 7", "2 CLOSED (likewise)");
        PlaceRectangles x = fiveIntoFour();
        x.lay(0, 0, 3, 0, 0);
        s.due("run(16)", x.run(16), 2);
        for (int work : Given.of(1, 16, 20000)) {
            s.due("from before: run(" + work + ")", x.run(work), 2);
            s.due("nothing is done: told(0, 0)", x.told(0, 0), 16);
            s.due("what is laid stays: place(0, 0)", x.place(0, 0), 3);
        }
    }

    private static void promise7Neither(Sentences s) {
        s.sentence("Promise 7", "0 neither yet.");
        PlaceRectangles x = fiveIntoFour();
        s.due("run(15)", x.run(15), 0);
        s.due("no plan", x.plan(), STATE);
        PlaceRectangles y = turned();
        s.due("run(7)", y.run(7), 0);
        s.due("no plan", y.plan(), STATE);
    }

    private static void promise7Bad(Sentences s) {
        s.sentence("Promise 7", "BAD: work is not 1 .. 20000.");
        PlaceRectangles x = turned();
        int[] wrong = {0, 20001, -1, -20000, 20002, 40000, 65537, LEAST, LEAST + 1, MOST - 1, MOST};
        for (int work : wrong) {
            s.due("run(" + work + ")", x.run(work), BAD);
        }
        s.due("nothing is done", x.told(0, 0), 0);
        s.due("the least: run(1)", x.run(1), 0);
        s.due("the most: run(20000)", x.run(20000), 1);
        PlaceRectangles closed = fiveIntoFour();
        closed.run(20000);
        PlaceRectangles none = new PlaceRectangles();
        for (int work : wrong) {
            s.due("THE PLAN is there: run(" + work + ")", x.run(work), BAD);
            s.due("CLOSED: run(" + work + ")", closed.run(work), BAD);
            s.due("without boxes: run(" + work + ")", none.run(work), BAD);
        }
    }

    private static void promise8Work(Sentences s) {
        s.sentence("Promise 8", "What = 0 WORK done since the search began anew");
        PlaceRectangles x = fiveIntoFour();
        s.due("none yet", x.told(0, 0), 0);
        x.run(5);
        x.run(6);
        s.due("of two calls", x.told(0, 0), 11);
        x.weight(0, 5);
        x.lay(0, 0, 0, 0, 0);
        x.lift(0);
        s.due("as before", x.told(0, 0), 11);
        x.turns(0, 1);
        s.due("anew", x.told(0, 0), 0);
        x.run(3);
        s.due("since then", x.told(0, 0), 3);
        x.box(1, 1, 1);
        s.due("anew", x.told(0, 0), 0);
        x.run(2);
        x.bin(4, 1, 1);
        s.due("anew", x.told(0, 0), 0);
        x.run(2);
        x.clear();
        s.due("anew", x.told(0, 0), 0);
        PlaceRectangles y = longSearch();
        y.run(20000);
        y.run(20000);
        y.run(20000);
        s.due("more than one call does", y.told(0, 0), 46872);
    }

    private static void promise8Order(Sentences s) {
        s.sentence("Promise 8", "1 the box that is k-th in THE ORDER");
        PlaceRectangles x = Given.bin(9, 9, 9, Given.of(1, 1, 1), Given.of(2, 2, 2), Given.of(3, 3, 3));
        orderIs(s, x, 2, 1, 0);
        x.box(20, 20, 20);
        orderIs(s, x, 3, 2, 1, 0);
        x.clear();
        x.box(1, 1, 1);
        orderIs(s, x, 0);
    }

    private static void promise8Ways(Sentences s) {
        s.sentence("Promise 8", "2 how many ways box k has");
        PlaceRectangles x = Given.bin(5, 4, 3, Given.of(1, 1, 1), Given.of(4, 3, 2), Given.of(6, 1, 1));
        // 0, 4 by 0, 1, 3 by 0, 1, 2; the place in THE ORDER, where it is last, does not matter.
        s.due("box 0", x.told(2, 0), 2 * 3 * 3);
        s.due("box 1: 0, 1 by 0, 1 by 0, 1", x.told(2, 1), 2 * 2 * 2);
        s.due("box 2 has none", x.told(2, 2), 0);
        x.run(3);
        s.due("the search does not change it", x.told(2, 0), 2 * 3 * 3);
        x.lay(1, 0, 0, 0, 0);
        s.due("nor does what is laid", x.told(2, 0), 2 * 3 * 3);
    }

    private static void promise8Coordinates(Sentences s) {
        s.sentence("Promise 8",
                "3 how many coordinates box k has on axis 0, 4 on 1, 5 on 2 (also such as are in no way).");
        PlaceRectangles x = Given.bin(5, 4, 3, Given.of(1, 1, 1), Given.of(4, 3, 2), Given.of(5, 1, 1));
        // 0, 4, 5; 0, 1, 3, 4; 0, 1, 2, 3: the last of each leaves no place.
        coordinatesAre(s, x, 0, 3, 4, 4);
        s.due("told(2, 0)", x.told(2, 0), 2 * 3 * 3);
        // 0, 1, 4, 5; 0, 1, 3, 4; 0, 1, 2, 3, of a box with a place on axis 0 at 0 alone.
        coordinatesAre(s, x, 2, 4, 4, 4);
        s.due("told(2, 2)", x.told(2, 2), 1 * 3 * 3);
        x.bin(4, 4, 3);
        coordinatesAre(s, x, 2, 3, 4, 4);
        s.due("a box without ways has coordinates: told(2, 2)", x.told(2, 2), 0);
    }

    private static void promise8Bad(Sentences s) {
        s.sentence("Promise 8", "BAD: another what; no such k (0: any).");
        PlaceRectangles x = Given.bin(5, 4, 3, Given.of(1, 1, 1), Given.of(4, 3, 2));
        x.run(2);
        for (int k : Given.wild(-1, 2)) {
            s.due("told(0, " + k + ")", x.told(0, k), 2);
            for (int what = 1; what <= 5; what++) {
                s.due("told(" + what + ", " + k + ")", x.told(what, k), BAD);
            }
        }
        for (int what : Given.wild(-1, 6)) {
            s.due("told(" + what + ", 0)", x.told(what, 0), BAD);
            s.due("told(" + what + ", 9)", x.told(what, 9), BAD);
        }
        PlaceRectangles none = new PlaceRectangles();
        for (int what = 1; what <= 5; what++) {
            s.due("without boxes: told(" + what + ", 0)", none.told(what, 0), BAD);
        }
        PlaceRectangles full = Given.bin(1, 1, 1, Given.times(8, 1, 1, 1));
        for (int what = 1; what <= 5; what++) {
            s.isTrue("of eight the last: told(" + what + ", 7)", full.told(what, 7) != BAD);
            s.due("of eight the ninth: told(" + what + ", 8)", full.told(what, 8), BAD);
        }
    }

    private static void promise9(Sentences s) {
        s.sentence("Promise 9", "All boxes are laid as in THE PLAN: how many.");
        for (int count = 0; count <= 8; count++) {
            PlaceRectangles x = Given.bin(8, 1, 1, Given.times(count, 1, 1, 1));
            x.run(20000);
            s.due("plan() of " + count, x.plan(), count);
            for (int box = 0; box < count; box++) {
                placeIs(s, x, box, box, 0, 0, 0, 1, 1, 1);
            }
        }
        PlaceRectangles y = turned();
        y.lay(0, 0, 1, 1, 0);
        y.run(20000);
        s.due("plan(), one being laid elsewhere", y.plan(), 2);
        placeIs(s, y, 0, 0, 0, 0, 2, 3, 2, 1);
        placeIs(s, y, 1, 0, 2, 0, 2, 3, 2, 1);
        y.lift(0);
        y.lay(1, 0, 0, 0, 0);
        s.due("plan() again", y.plan(), 2);
        placeIs(s, y, 0, 0, 0, 0, 2, 3, 2, 1);
        placeIs(s, y, 1, 0, 2, 0, 2, 3, 2, 1);
    }

    private static void promise9State(Sentences s) {
        s.sentence("Promise 9", "STATE: it is not there.");
        PlaceRectangles x = turned();
        s.due("before the search", x.plan(), STATE);
        x.lay(0, 0, 1, 1, 0);
        x.run(7);
        s.due("in the search", x.plan(), STATE);
        placeIs(s, x, 0, 1, 1, 0, 0);
        s.due("box 1 is not laid", x.place(1, 0), NONE);
        x.run(1);
        s.due("behind it", x.plan(), 2);
        x.bin(3, 4, 1);
        s.due("anew", x.plan(), STATE);
        s.due("box 1 is not laid", x.place(1, 0), NONE);
        x.run(20000);
        s.due("there again", x.plan(), 2);
        PlaceRectangles closed = fiveIntoFour();
        closed.run(16);
        s.due("CLOSED", closed.plan(), STATE);
    }
}
