/** Promises 10 to 16: lay, lift, place, overlaps, relative, support, centre. */
final class LaidTest {
    private static final int BAD = PlaceRectangles.BAD, STATE = PlaceRectangles.STATE;
    private static final int NONE = PlaceRectangles.NONE;
    private static final int LEAST = Integer.MIN_VALUE, MOST = Integer.MAX_VALUE;
    private static final Check CHECK = new Check();

    public static void main(String[] args) {
        promise10();
        promise10Refusals();
        promise11();
        promise12();
        promise13();
        promise14();
        promise14FirstOfSeveral();
        promise15();
        promise15Sums();
        promise16();
        promise16Weights();
        CHECK.end();
    }

    private static void due(String call, long got, long want) {
        CHECK.due(call, got, want);
    }

    /** A bin of 10 with so many boxes of 4, 3, 2. */
    private static PlaceRectangles boxes(int count) {
        PlaceRectangles x = new PlaceRectangles();
        for (int k = 0; k < count; k++) {
            x.box(4, 3, 2);
        }
        return x;
    }

    private static void promise10() {
        PlaceRectangles x = boxes(4);
        due("10 first", x.lay(0, 0, 0, 0, 0), 0);
        due("10 it touches", x.lay(1, 0, 4, 0, 0), 0);
        due("10 it overlaps both", x.lay(2, 0, 2, 0, 0), 2);
        due("10 three pairs more", x.lay(3, 0, 2, 1, 1), 5);
        due("10 elsewhere", x.lay(2, 0, 6, 7, 8), 2);
        due("10 the same place again", x.lay(2, 0, 6, 7, 8), 2);
        due("10 moved", x.place(2, 0), 6);
        due("10 search is not touched", x.told(0, 0), 0);
        x.run(20000);
        x.plan();
        int work = x.told(0, 0);
        x.lay(0, 0, 6, 7, 8);
        due("10 work stays", x.told(0, 0), work);
        due("10 the plan stays", x.plan(), 4);
        due("10 as it was", x.overlaps(), 0);
    }

    private static void promise10Refusals() {
        PlaceRectangles x = boxes(1);
        x.turns(0, 9);
        due("10 the last place", x.lay(0, 0, 6, 7, 8), 0);
        due("10 beyond on axis 0", x.lay(0, 0, 7, 0, 0), BAD);
        due("10 beyond on axis 1", x.lay(0, 0, 0, 8, 0), BAD);
        due("10 beyond on axis 2", x.lay(0, 0, 0, 0, 9), BAD);
        due("10 the other turn's last place", x.lay(0, 3, 7, 8, 6), 0);
        due("10 beyond with it", x.lay(0, 3, 7, 8, 7), BAD);
        for (int n : new int[] {-1, LEAST, MOST, 10, MOST - 1}) {
            due("10 x = " + n, x.lay(0, 0, n, 0, 0), BAD);
            due("10 y = " + n, x.lay(0, 0, 0, n, 0), BAD);
            due("10 z = " + n, x.lay(0, 0, 0, 0, n), BAD);
            due("10 turn " + n, x.lay(0, n, 0, 0, 0), BAD);
            due("10 box " + n, x.lay(n, 0, 0, 0, 0), BAD);
        }
        for (int turn : new int[] {1, 2, 4, 5, 6, 32, 35}) {
            due("10 turn " + turn, x.lay(0, turn, 0, 0, 0), BAD);
        }
        due("10 no such box", x.lay(1, 0, 0, 0, 0), BAD);
        due("10 refusals change nothing", x.place(0, 2), 6);
        due("10 nor its turn", x.place(0, 3), 3);
        x.bin(3, 3, 3);
        due("10 a box too long has no place", x.lay(0, 0, 0, 0, 0), BAD);
        due("10 nor ahead of the bin", x.lay(0, 0, -1, 0, 0), BAD);
    }

    private static void promise11() {
        PlaceRectangles x = boxes(2);
        due("11 not laid", x.lift(0), STATE);
        x.lay(0, 0, 0, 0, 0);
        x.lay(1, 0, 0, 0, 0);
        due("11 lift", x.lift(0), 0);
        due("11 it is gone", x.place(0, 0), NONE);
        due("11 the other one stays", x.place(1, 0), 0);
        due("11 no overlap", x.overlaps(), 0);
        due("11 again", x.lift(0), STATE);
        for (int box : new int[] {-1, 2, 8, LEAST, MOST}) {
            due("11 lift(" + box + ")", x.lift(box), BAD);
        }
        due("11 it may be laid anew", x.lay(0, 0, 6, 0, 0), 0);
    }

    private static void promise12() {
        PlaceRectangles x = boxes(2);
        x.turns(0, 63);
        x.lay(0, 4, 1, 2, 3);
        int[] told = {1, 2, 3, 4, 2, 4, 3};
        for (int what = 0; what < 7; what++) {
            due("12 place(0, " + what + ")", x.place(0, what), told[what]);
            due("12 not laid", x.place(1, what), NONE);
            due("12 no such box", x.place(2, what), BAD);
            due("12 no such box", x.place(-1, what), BAD);
        }
        for (int what : new int[] {-1, 7, LEAST, MOST}) {
            due("12 what = " + what, x.place(0, what), BAD);
            due("12 BAD, also of a box that is not laid", x.place(1, what), BAD);
        }
    }

    private static void promise13() {
        PlaceRectangles x = boxes(8);
        due("13 none", x.overlaps(), 0);
        for (int box = 0; box < 8; box++) {
            x.lay(box, 0, 3, 3, 3);
            due("13 all pairs", x.overlaps(), box * (box + 1) / 2);
        }
        x.clear();
        due("13 after clear", x.overlaps(), 0);
        PlaceRectangles y = boxes(2);
        y.lay(0, 0, 4, 3, 2);
        int[][] beside = {{0, 3, 2}, {4, 0, 2}, {4, 3, 0}, {4, 6, 2}, {4, 3, 4}};
        for (int[] at : beside) {
            y.lay(1, 0, at[0], at[1], at[2]);
            due("13 they touch", y.overlaps(), 0);
        }
        int[][] within = {{1, 3, 2}, {4, 1, 2}, {4, 3, 1}, {6, 5, 3}, {1, 1, 1}};
        for (int[] at : within) {
            y.lay(1, 0, at[0], at[1], at[2]);
            due("13 they overlap", y.overlaps(), 1);
        }
    }

    private static void promise14() {
        PlaceRectangles x = boxes(2);
        int[][] places = {{3, 6, 3}, {3, 0, 3}, {3, 3, 5}, {3, 3, 1}, {6, 3, 3}, {0, 3, 3}, {3, 3, 3}};
        int[] told = {2, 3, 4, 5, NONE, NONE, NONE};
        int[] back = {3, 2, 5, 4, NONE, NONE, NONE};
        x.lay(0, 0, 3, 3, 3);
        for (int k = 0; k < places.length; k++) {
            x.lay(1, 0, places[k][0], places[k][1], places[k][2]);
            due("14 relative(0, 1) of " + k, x.relative(0, 1), told[k]);
            due("14 relative(1, 0) of " + k, x.relative(1, 0), back[k]);
        }
        x.lay(0, 0, 2, 3, 3);
        x.lay(1, 0, 6, 3, 3);
        due("14 a before b, they touch", x.relative(0, 1), 0);
        due("14 b before a, they touch", x.relative(1, 0), 1);
        for (int box : new int[] {-1, 2, 8, LEAST, MOST}) {
            due("14 no box " + box, x.relative(box, 0), BAD);
            due("14 no box " + box, x.relative(0, box), BAD);
            due("14 twice " + box, x.relative(box, box), BAD);
        }
        due("14 both the same", x.relative(0, 0), BAD);
        x.lift(1);
        due("14 b is not laid", x.relative(0, 1), STATE);
        due("14 a is not laid", x.relative(1, 0), STATE);
        due("14 BAD is ahead of STATE", x.relative(1, 1), BAD);
    }

    private static void promise14FirstOfSeveral() {
        PlaceRectangles x = boxes(2);
        x.lay(0, 0, 0, 0, 0);
        x.lay(1, 0, 6, 7, 8);
        due("14 on all axes", x.relative(0, 1), 0);
        due("14 on all axes", x.relative(1, 0), 1);
        x.lay(1, 0, 3, 7, 8);
        due("14 on axes 1 and 2", x.relative(0, 1), 2);
        due("14 on axes 1 and 2", x.relative(1, 0), 3);
        x.lay(0, 0, 6, 0, 8);
        x.lay(1, 0, 0, 7, 0);
        due("14 b before a on axis 0 is ahead of a before b on axis 1", x.relative(0, 1), 1);
    }

    private static void promise15() {
        PlaceRectangles x = boxes(3);
        due("15 not laid", x.support(0), STATE);
        x.lay(0, 0, 0, 0, 0);
        due("15 on the ground", x.support(0), 12);
        x.lay(1, 0, 2, 1, 2);
        due("15 2 * 2 in common", x.support(1), 4);
        x.lay(1, 0, 2, 1, 3);
        due("15 in the air", x.support(1), 0);
        x.lay(1, 0, 2, 1, 1);
        due("15 the other one ends above", x.support(1), 0);
        x.lay(1, 0, 4, 0, 2);
        due("15 beside it", x.support(1), 0);
        x.lay(1, 0, 6, 5, 2);
        due("15 far beside it", x.support(1), 0);
        x.lay(1, 0, 0, 0, 2);
        due("15 all", x.support(1), 12);
        due("15 what lies above holds nothing", x.support(0), 12);
        x.lift(0);
        due("15 what is lifted holds nothing", x.support(1), 0);
        x.turns(0, 8);
        x.lay(0, 3, 0, 0, 0);
        due("15 extents of the turn", x.support(0), 6);
        for (int box : new int[] {-1, 3, 8, LEAST, MOST}) {
            due("15 support(" + box + ")", x.support(box), BAD);
        }
    }

    private static void promise15Sums() {
        PlaceRectangles x = boxes(4);
        x.lay(0, 0, 0, 0, 0);
        x.lay(1, 0, 4, 0, 0);
        x.lay(2, 0, 2, 1, 2);
        due("15 two hold", x.support(2), 4 + 4);
        due("15 they overlap", x.lay(3, 0, 4, 0, 0), 1);
        due("15 each counts by itself", x.support(2), 4 + 4 + 4);
    }

    private static void promise16() {
        PlaceRectangles x = boxes(2);
        due("16 none laid", x.centre(0, 0), 0);
        due("16 none laid", x.centre(0, 1), 0);
        x.lay(0, 0, 0, 0, 0);
        int[][] told = {{2, 1}, {3, 2}, {1, 1}};
        for (int axis = 0; axis < 3; axis++) {
            due("16 above on " + axis, x.centre(axis, 0), told[axis][0]);
            due("16 below on " + axis, x.centre(axis, 1), told[axis][1]);
        }
        x.lay(1, 0, 1, 0, 2);
        due("16 (2 + 3) / 2", x.centre(0, 0), 5);
        due("16 (2 + 3) / 2", x.centre(0, 1), 2);
        due("16 (1 + 3) / 2", x.centre(2, 0), 2);
        due("16 (1 + 3) / 2", x.centre(2, 1), 1);
        for (int n : new int[] {-1, LEAST, MOST}) {
            due("16 axis " + n, x.centre(n, 0), BAD);
            due("16 part " + n, x.centre(0, n), BAD);
        }
        due("16 axis 3", x.centre(3, 0), BAD);
        due("16 part 2", x.centre(0, 2), BAD);
    }

    private static void promise16Weights() {
        PlaceRectangles x = boxes(3);
        x.lay(0, 0, 0, 0, 0);
        x.lay(1, 0, 1, 0, 2);
        x.weight(0, 1000);
        x.weight(1, 999);
        due("16 (2000 + 2997) / 1999", x.centre(0, 0), 4997);
        due("16 (2000 + 2997) / 1999", x.centre(0, 1), 1999);
        x.weight(2, 500);
        due("16 what is not laid does not weigh", x.centre(0, 1), 1999);
        x.weight(0, 0);
        due("16 of box 1 alone", x.centre(0, 0), 3);
        due("16 of box 1 alone", x.centre(0, 1), 1);
        x.weight(1, 0);
        due("16 no weight, above", x.centre(0, 0), 0);
        due("16 no weight, below", x.centre(0, 1), 0);
        PlaceRectangles y = new PlaceRectangles();
        y.bin(20, 20, 20);
        for (int box = 0; box < 8; box++) {
            y.box(1, 1, 1);
            y.weight(box, 1000);
        }
        for (int box = 0; box < 8; box++) {
            y.lay(box, 0, 19, 19, 19);
        }
        due("16 the heaviest, farthest", y.centre(2, 0), 39);
        due("16 the heaviest, farthest", y.centre(2, 1), 2);
    }
}
