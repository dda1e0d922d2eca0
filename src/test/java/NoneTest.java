/** Promise 22: places that no plan of pairs has. */
final class NoneTest {
    private static final int BAD = PlaceRectangles.BAD;
    private static final Check CHECK = new Check();

    public static void main(String[] args) {
        alone();
        onEachSide();
        anyTurnWillDo();
        anyPlaceWillDo();
        otherBoxWithoutPlace();
        pairsAlone();
        refusals();
        CHECK.end();
    }

    private static void due(String call, long got, long want) {
        CHECK.due(call, got, want);
    }

    private static void alone() {
        PlaceRectangles x = new PlaceRectangles();
        x.box(10, 10, 10);
        due("22 no other box", x.none(0, 0, 0, 0, 0), 0);
    }

    /** A 2-cube in a bin of 5 has room for a 3-cube beside it, unless it is in the midst. */
    private static void onEachSide() {
        PlaceRectangles x = new PlaceRectangles();
        x.bin(5, 5, 5);
        x.box(2, 2, 2);
        x.box(3, 3, 3);
        for (int k = 0; k < 64; k++) {
            int a = k & 3, b = k >> 2 & 3, c = k >> 4;
            boolean room = a == 0 || a == 3 || b == 0 || b == 3 || c == 0 || c == 3;
            due("22 none(0, 0, " + a + ", " + b + ", " + c + ")", x.none(0, 0, a, b, c), room ? 0 : 1);
        }
        due("22 what is laid does not matter", x.lay(1, 0, 0, 0, 0), 0);
        due("22 the same", x.none(0, 0, 0, 0, 0), 0);
        due("22 it lays nothing", x.place(0, 0), PlaceRectangles.NONE);
    }

    private static void anyTurnWillDo() {
        PlaceRectangles x = new PlaceRectangles();
        x.bin(4, 4, 1);
        x.box(2, 4, 1);
        x.box(4, 2, 1);
        due("22 with its only turn", x.none(0, 0, 0, 0, 0), 1);
        x.turns(1, 5);
        due("22 with another turn", x.none(0, 0, 0, 0, 0), 0);
        due("22 in the midst", x.none(0, 0, 1, 0, 0), 1);
        x.turns(1, 63);
        due("22 turns that are too long do not help", x.none(0, 0, 1, 0, 0), 1);
    }

    /** The place beside it need not be one of its ways. */
    private static void anyPlaceWillDo() {
        PlaceRectangles x = new PlaceRectangles();
        x.bin(5, 1, 1);
        x.box(3, 1, 1);
        x.box(1, 1, 1);
        due("22 1 is at 4 only, which is no sum", x.none(0, 0, 1, 0, 0), 0);
        due("22 a place that is no way", x.none(1, 0, 1, 0, 0), 0);
        due("22 in the midst", x.none(1, 0, 2, 0, 0), 1);
    }

    private static void otherBoxWithoutPlace() {
        PlaceRectangles x = new PlaceRectangles();
        x.bin(4, 4, 4);
        x.box(1, 1, 1);
        x.box(1, 1, 5);
        due("22 the other one has no place at all", x.none(0, 0, 0, 0, 0), 1);
        x.turns(1, 63);
        due("22 in no turn", x.none(0, 0, 3, 3, 3), 1);
        due("22 of itself", x.none(1, 0, 0, 0, 0), BAD);
    }

    private static void pairsAlone() {
        PlaceRectangles x = new PlaceRectangles();
        x.bin(3, 1, 1);
        for (int box = 0; box < 4; box++) {
            x.box(1, 1, 1);
        }
        due("22 four do not go into three, but each pair does", x.none(0, 0, 1, 0, 0), 0);
        x.box(2, 1, 1);
        due("22 the fifth one is not beside it", x.none(0, 0, 1, 0, 0), 1);
        due("22 here it is", x.none(0, 0, 2, 0, 0), 0);
    }

    private static void refusals() {
        PlaceRectangles x = new PlaceRectangles();
        due("22 no box", x.none(0, 0, 0, 0, 0), BAD);
        x.bin(4, 5, 6);
        x.box(2, 2, 2);
        due("22 the last place", x.none(0, 0, 2, 3, 4), 0);
        due("22 beyond on axis 0", x.none(0, 0, 3, 0, 0), BAD);
        due("22 beyond on axis 1", x.none(0, 0, 0, 4, 0), BAD);
        due("22 beyond on axis 2", x.none(0, 0, 0, 0, 5), BAD);
        for (int n : new int[] {-1, 6, Integer.MIN_VALUE, Integer.MAX_VALUE}) {
            due("22 box " + n, x.none(n, 0, 0, 0, 0), BAD);
            due("22 turn " + n, x.none(0, n, 0, 0, 0), BAD);
            due("22 x = " + n, x.none(0, 0, n, 0, 0), BAD);
            due("22 y = " + n, x.none(0, 0, 0, n, 0), BAD);
            due("22 z = " + n, x.none(0, 0, 0, 0, n), BAD);
        }
        due("22 a turn that it hasn't", x.none(0, 1, 0, 0, 0), BAD);
    }
}
