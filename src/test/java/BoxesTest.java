/** Promises 1 to 6: a new object, the bin, boxes, turns, weights, clear. */
final class BoxesTest {
    private static final int BAD = PlaceRectangles.BAD, STATE = PlaceRectangles.STATE;
    private static final int FULL = PlaceRectangles.FULL, NONE = PlaceRectangles.NONE;
    private static final Check CHECK = new Check();

    public static void main(String[] args) {
        promise1();
        promise2();
        promise2Refusals();
        promise3();
        promise3Refusals();
        promise4();
        promise4Extents();
        promise4SameExtents();
        promise5();
        promise6();
        CHECK.end();
    }

    private static void due(String call, long got, long want) {
        CHECK.due(call, got, want);
    }

    private static void promise1() {
        PlaceRectangles x = new PlaceRectangles();
        due("1 no boxes: told(1, 0)", x.told(1, 0), BAD);
        due("1 told(0, 7)", x.told(0, 7), 0);
        due("1 overlaps", x.overlaps(), 0);
        due("1 tree", x.tree(), 0);
        due("1 plan, without run", x.plan(), 0);
        due("1 proof", x.proof(0), NONE);
        due("1 need", x.need(0, 0, 0, 0), 0);
        due("1 has", x.need(0, 0, 0, 1), 1000);
        for (int axis = 0; axis < 3; axis++) {
            due("1 length 10", x.dual(axis, 0, 10), 10);
            due("1 not longer", x.dual(axis, 0, 11), BAD);
        }
        due("1 clear", x.clear(), 0);
        due("1 box", x.box(10, 10, 10), 0);
        due("1 its weight", x.weight(0, 1), 1);
        due("1 its turns", x.turns(0, 1), 1);
        due("1 it just fits", x.run(1), 1);
        PlaceRectangles other = new PlaceRectangles();
        due("1 objects share nothing", other.clear(), 0);
    }

    /** A box that has a plan and is laid, and some work done. */
    private static PlaceRectangles planned() {
        PlaceRectangles x = new PlaceRectangles();
        x.box(3, 2, 1);
        x.run(5);
        due("planned: plan", x.plan(), 1);
        due("planned: work", x.told(0, 0), 1);
        return x;
    }

    private static void isAnew(String why, PlaceRectangles x) {
        due(why + ": no work", x.told(0, 0), 0);
        due(why + ": nothing laid", x.place(0, 0), NONE);
        due(why + ": no plan", x.plan(), STATE);
        due(why + ": nothing to lift", x.lift(0), STATE);
    }

    private static void isKept(String why, PlaceRectangles x) {
        due(why + ": work", x.told(0, 0), 1);
        due(why + ": laid", x.place(0, 4), 3);
        due(why + ": plan", x.plan(), 1);
    }

    private static void promise2() {
        PlaceRectangles x = planned();
        due("2 bin(10, 10, 10)", x.bin(10, 10, 10), 0);
        isAnew("2 the same bin", x);
        due("2 bin(3, 2, 1)", x.bin(3, 2, 1), 0);
        due("2 length of axis 0", x.dual(0, 0, 4), BAD);
        due("2 length of axis 1", x.dual(1, 0, 3), BAD);
        due("2 length of axis 2", x.dual(2, 0, 2), BAD);
        due("2 it fits", x.lay(0, 0, 0, 0, 0), 0);
        due("2 run", x.run(1), 1);
        due("2 bin(1, 1, 1)", x.bin(1, 1, 1), 0);
        isAnew("2 another bin", x);
        due("2 it fits no more", x.run(1), 2);
        due("2 bin(20, 20, 20)", x.bin(20, 20, 20), 0);
        due("2 far away", x.lay(0, 0, 17, 18, 19), 0);
    }

    private static void promise2Refusals() {
        PlaceRectangles x = planned();
        int[] wrong = {0, 21, -1, Integer.MIN_VALUE, Integer.MAX_VALUE};
        for (int n : wrong) {
            due("2 bin(" + n + ", 5, 5)", x.bin(n, 5, 5), BAD);
            due("2 bin(5, " + n + ", 5)", x.bin(5, n, 5), BAD);
            due("2 bin(5, 5, " + n + ")", x.bin(5, 5, n), BAD);
        }
        isKept("2 refused", x);
        due("2 the bin is as it was", x.need(0, 0, 0, 1), 1000);
    }

    private static void promise3() {
        PlaceRectangles x = planned();
        for (int number = 1; number < 8; number++) {
            due("3 box", x.box(1, 20, 1), number);
        }
        isAnew("3 a box more", x);
        due("3 FULL", x.box(1, 1, 1), FULL);
        due("3 BAD is ahead of FULL", x.box(0, 1, 1), BAD);
        due("3 no ninth", x.told(1, 8), BAD);
        due("3 sides", x.lay(0, 0, 0, 0, 0), 0);
        due("3 a", x.place(0, 4), 3);
        due("3 b", x.place(0, 5), 2);
        due("3 c", x.place(0, 6), 1);
    }

    private static void promise3Refusals() {
        PlaceRectangles x = planned();
        int[] wrong = {0, 21, -1, Integer.MIN_VALUE, Integer.MAX_VALUE};
        for (int n : wrong) {
            due("3 box(" + n + ", 5, 5)", x.box(n, 5, 5), BAD);
            due("3 box(5, " + n + ", 5)", x.box(5, n, 5), BAD);
            due("3 box(5, 5, " + n + ")", x.box(5, 5, n), BAD);
        }
        isKept("3 refused", x);
        for (int number = 1; number < 8; number++) {
            due("3 box", x.box(20, 20, 20), number);
        }
        x.clear();
        for (int number = 0; number < 8; number++) {
            x.box(1, 1, 1);
        }
        x.run(100);
        due("3 all laid", x.plan(), 8);
        due("3 FULL", x.box(1, 1, 1), FULL);
        due("3 FULL changes nothing", x.plan(), 8);
        due("3 all are laid yet", x.tree() > 0 ? 1 : 0, 1);
    }

    private static void promise4() {
        PlaceRectangles x = planned();
        due("4 turns(0, 1)", x.turns(0, 1), 1);
        isAnew("4 the same turns", x);
        due("4 turns(0, 63)", x.turns(0, 63), 1);
        due("4 turns(0, 32)", x.turns(0, 32), 63);
        due("4 turns(0, 1)", x.turns(0, 1), 32);
        x.run(1);
        x.plan();
        int[][] wrong = {{0, 0}, {0, 64}, {0, -1}, {1, 1}, {-1, 1}, {8, 1},
            {Integer.MAX_VALUE, 1}, {Integer.MIN_VALUE, 1}, {0, Integer.MAX_VALUE}};
        for (int[] words : wrong) {
            due("4 turns(" + words[0] + ", " + words[1] + ")", x.turns(words[0], words[1]), BAD);
        }
        isKept("4 refused", x);
    }

    private static void promise4Extents() {
        PlaceRectangles x = new PlaceRectangles();
        x.box(3, 5, 7);
        x.turns(0, 63);
        int[][] extents = {{3, 5, 7}, {3, 7, 5}, {5, 3, 7}, {5, 7, 3}, {7, 3, 5}, {7, 5, 3}};
        for (int turn = 0; turn < 6; turn++) {
            due("4 lay", x.lay(0, turn, 0, 0, 0), 0);
            due("4 turn", x.place(0, 3), turn);
            for (int axis = 0; axis < 3; axis++) {
                due("4 extent of turn " + turn, x.place(0, 4 + axis), extents[turn][axis]);
            }
            due("4 only this turn", x.turns(0, 1 << turn), 63);
            x.run(1);
            x.plan();
            due("4 planned turn", x.place(0, 3), turn);
            x.turns(0, 63);
        }
        x.turns(0, 42);
        for (int turn = 0; turn < 6; turn++) {
            due("4 has turn " + turn, x.lay(0, turn, 0, 0, 0), turn % 2 == 1 ? 0 : BAD);
        }
    }

    private static void promise4SameExtents() {
        PlaceRectangles x = new PlaceRectangles();
        x.box(2, 2, 2);
        x.turns(0, 48);
        due("4 ways of one shape", x.told(2, 0), 1);
        x.run(1);
        x.plan();
        due("4 the first turn that it has", x.place(0, 3), 4);
        due("4 the other one is a place too", x.lay(0, 5, 1, 1, 1), 0);
        due("4 and stays as it was told", x.place(0, 3), 5);
        due("4 but not one that it hasn't", x.lay(0, 0, 1, 1, 1), BAD);
    }

    private static void promise5() {
        PlaceRectangles x = planned();
        due("5 weight(0, 1000)", x.weight(0, 1000), 1);
        due("5 weight(0, 0)", x.weight(0, 0), 1000);
        due("5 weight(0, 7)", x.weight(0, 7), 0);
        isKept("5 a weight", x);
        int[][] wrong = {{0, -1}, {0, 1001}, {1, 5}, {-1, 5}, {8, 5},
            {Integer.MIN_VALUE, 5}, {Integer.MAX_VALUE, 5}, {0, Integer.MAX_VALUE}};
        for (int[] words : wrong) {
            due("5 weight(" + words[0] + ", " + words[1] + ")", x.weight(words[0], words[1]), BAD);
        }
        due("5 refusals change nothing", x.weight(0, 7), 7);
        x.box(1, 1, 1);
        due("5 the weight stays with a box more", x.weight(0, 7), 7);
        due("5 of the new one", x.weight(1, 2), 1);
        x.bin(9, 9, 9);
        due("5 and with another bin", x.weight(0, 7), 7);
        due("5 of each its own", x.weight(1, 2), 2);
    }

    private static void promise6() {
        PlaceRectangles x = planned();
        x.bin(3, 4, 5);
        x.box(2, 2, 2);
        x.weight(0, 9);
        x.turns(0, 63);
        x.lay(0, 0, 0, 0, 0);
        due("6 clear", x.clear(), 2);
        due("6 clear again", x.clear(), 0);
        due("6 the bin stays", x.need(0, 0, 0, 1), 60);
        due("6 no boxes", x.place(0, 0), BAD);
        due("6 none laid", x.overlaps(), 0);
        due("6 the plan of none", x.plan(), 0);
        due("6 the first again", x.box(3, 1, 1), 0);
        due("6 its weight is new", x.weight(0, 1), 1);
        due("6 its turns are new", x.turns(0, 1), 1);
        due("6 it is not laid", x.place(0, 0), NONE);
    }
}
