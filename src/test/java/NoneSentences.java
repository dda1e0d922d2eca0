/** Promise 22. */
final class NoneSentences {
    private static final int BAD = Given.BAD;

    private NoneSentences() {
    }

    static void all(Sentences s) {
        alone(s);
        byHand(s);
        withoutAnyPlace(s);
        everyPlace(s);
        bad(s);
    }

    private static void alone(Sentences s) {
        s.sentence("Promise 22", "1: some other box");
        PlaceRectangles x = Given.bin(10, 10, 10, Given.of(10, 10, 10));
        s.due("no other box", x.none(0, 0, 0, 0, 0), 0);
        x.box(1, 1, 1);
        s.due("it has no room", x.none(0, 0, 0, 0, 0), 1);
        s.due("nor has this one", x.none(1, 0, 0, 0, 0), 1);
        x.bin(11, 10, 10);
        s.due("it has room", x.none(0, 0, 0, 0, 0), 0);
        // Each has room beside box 0, but for the last one of eight.
        PlaceRectangles y = Given.bin(4, 1, 1, Given.times(7, 1, 1, 1));
        s.due("seven go in by pairs", y.none(0, 0, 1, 0, 0), 0);
        y.box(3, 1, 1);
        s.due("the eighth does not", y.none(0, 0, 1, 0, 0), 1);
        s.due("here it does", y.none(0, 0, 0, 0, 0), 0);
        s.due("and here", y.none(0, 0, 3, 0, 0), 0);
    }

    private static void byHand(Sentences s) {
        s.sentence("Promise 22", "Whether a place of a box is in no plan by pairs alone: 1: some other box has no place"
                + " at all that does not overlap it, else 0.");
        PlaceRectangles x = Given.bin(5, 5, 5, Given.of(2, 2, 2), Given.of(3, 3, 3));
        for (int k = 0; k < 64; k++) {
            int a = k % 4, b = k / 4 % 4, c = k / 16;
            boolean room = a % 3 == 0 || b % 3 == 0 || c % 3 == 0;
            s.due("none(0, 0, " + a + ", " + b + ", " + c + ")", x.none(0, 0, a, b, c), room ? 0 : 1);
        }
        PlaceRectangles y = Given.bin(3, 1, 1, Given.times(4, 1, 1, 1));
        s.due("by pairs alone: four do not go into three", y.none(0, 0, 1, 0, 0), 0);
        s.due("and there is no plan", y.run(20000), 2);
        s.due("as before", y.none(0, 0, 1, 0, 0), 0);
        PlaceRectangles z = Given.bin(5, 1, 1, Given.of(2, 1, 1), Given.of(2, 1, 1));
        s.due("the other one is at 3 alone, which is no coordinate of it", z.none(0, 0, 1, 0, 0), 0);
        s.due("at a place that is no way of it", z.none(1, 0, 3, 0, 0), 0);
        s.due("in the midst of 5", Given.bin(5, 1, 1, Given.of(3, 1, 1), Given.of(1, 1, 1)).none(1, 0, 2, 0, 0), 1);
        z.lay(1, 0, 0, 0, 0);
        s.due("where another one is laid", z.none(0, 0, 0, 0, 0), 0);
        s.due("it lays nothing", z.place(0, 0), Given.NONE);
        s.due("and lifts nothing", z.place(1, 0), 0);
        for (int at = 0; at <= 2; at += 2) {
            x.lay(1, 0, at, 0, 0);
            s.due("in the midst, the other one being laid at " + at, x.none(0, 0, 1, 1, 1), 1);
            s.due("aside, the other one being laid at " + at, x.none(0, 0, 3, 1, 1), 0);
        }
    }

    private static void withoutAnyPlace(Sentences s) {
        s.sentence("Promise 22", "has no place at all");
        PlaceRectangles x = Given.bin(4, 4, 4, Given.of(1, 1, 1), Given.of(1, 1, 5));
        s.due("the other one lies nowhere", x.none(0, 0, 0, 0, 0), 1);
        x.turns(1, 63);
        s.due("with no turn", x.none(0, 0, 3, 3, 3), 1);
        x.bin(4, 4, 5);
        s.due("with one of its turns it does", x.none(0, 0, 3, 3, 3), 0);
        x.turns(1, 2);
        s.due("which it must have", x.none(0, 0, 3, 3, 3), 1);
        // Upright it would go beside the other one, but not into the bin.
        PlaceRectangles y = Given.bin(4, 4, 1, Given.of(2, 4, 1), Given.of(4, 2, 1));
        y.turns(1, 63);
        s.due("beside it", y.none(0, 0, 0, 0, 0), 0);
        s.due("in the midst", y.none(0, 0, 1, 0, 0), 1);
    }

    private static boolean overlap(int[] from, int[] extents, int[] otherFrom, int[] otherExtents) {
        for (int axis = 0; axis < 3; axis++) {
            if (from[axis] + extents[axis] <= otherFrom[axis] || otherFrom[axis] + otherExtents[axis] <= from[axis]) {
                return false;
            }
        }
        return true;
    }

    private static boolean hasRoom(int[] bin, int[] at, int[] extents, int[] other) {
        for (int x = 0; x + other[0] <= bin[0]; x++) {
            for (int y = 0; y + other[1] <= bin[1]; y++) {
                for (int z = 0; z + other[2] <= bin[2]; z++) {
                    if (!overlap(at, extents, Given.of(x, y, z), other)) {
                        return true;
                    }
                }
            }
        }
        return false;
    }

    /** All places of a box beside another one that has one turn, compared with going through them all. */
    private static void everyPlace(Sentences s) {
        s.sentence("Promise 22", "that does not overlap it, else 0.");
        int[] bin = {4, 3, 5};
        int ones = 0;
        for (int k = 0; k < 60; k++) {
            int[] extents = {1 + k % 4, 1 + k / 4 % 3, 1 + k / 12};
            int[] other = {1 + k * 7 % 4, 1 + k * 5 % 3, 1 + k * 11 % 5};
            PlaceRectangles x = Given.bin(bin[0], bin[1], bin[2], extents, other);
            for (int n = 0; n < 60; n++) {
                int[] at = {n % 4, n / 4 % 3, n / 12};
                boolean isPlace = at[0] + extents[0] <= 4 && at[1] + extents[1] <= 3 && at[2] + extents[2] <= 5;
                int due = !isPlace ? BAD : hasRoom(bin, at, extents, other) ? 0 : 1;
                ones += due == 1 ? 1 : 0;
                s.due("box " + k + ", place " + n, x.none(0, 0, at[0], at[1], at[2]), due);
            }
        }
        s.isTrue("both kinds were seen", ones > 100);
    }

    private static void bad(Sentences s) {
        s.sentence("Promise 22", "BAD: no such box; it is no place.");
        s.due("without boxes", new PlaceRectangles().none(0, 0, 0, 0, 0), BAD);
        PlaceRectangles x = Given.bin(4, 5, 6, Given.of(2, 2, 2), Given.of(1, 1, 1));
        x.turns(0, 9);
        for (int box : Given.wild(-1, 2)) {
            s.due("box " + box, x.none(box, 0, 0, 0, 0), BAD);
        }
        for (int turn : Given.wild(-1, 6)) {
            s.due("turn " + turn, x.none(0, turn, 0, 0, 0), BAD);
        }
        for (int turn : Given.of(1, 2, 4, 5)) {
            s.due("a turn that it has not, " + turn, x.none(0, turn, 0, 0, 0), BAD);
        }
        for (int n : Given.wild(-1, 5)) {
            s.due("x = " + n, x.none(0, 0, n, 0, 0), BAD);
            s.due("y = " + n, x.none(0, 0, 0, n, 0), BAD);
            s.due("z = " + n, x.none(0, 0, 0, 0, n), BAD);
        }
        s.due("the last place", x.none(0, 0, 2, 3, 4), 0);
        s.due("by turn 3", x.none(0, 3, 2, 3, 4), 0);
        s.due("beyond on axis 0", x.none(0, 0, 3, 3, 4), BAD);
        s.due("beyond on axis 1", x.none(0, 0, 2, 4, 4), BAD);
        s.due("beyond on axis 2", x.none(0, 0, 2, 3, 5), BAD);
    }
}
