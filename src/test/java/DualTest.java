/** Promises 19 to 21: dual, need, proof. */
final class DualTest {
    private static final int BAD = PlaceRectangles.BAD, NONE = PlaceRectangles.NONE;
    private static final int LEAST = Integer.MIN_VALUE, MOST = Integer.MAX_VALUE;
    private static final Check CHECK = new Check();

    public static void main(String[] args) {
        promise19();
        promise19OddLength();
        promise19ShortBins();
        promise19IsDual();
        promise19Refusals();
        promise20();
        promise20BoxesThatDoNotCount();
        promise20Refusals();
        promise21();
        promise21FirstOnEachAxis();
        promise21AllTurnsOfAllBoxes();
        promise21Reason();
        promise21Refusals();
        CHECK.end();
    }

    private static void due(String call, long got, long want) {
        CHECK.due(call, got, want);
    }

    private static void rowIs(PlaceRectangles x, int axis, int n, int... values) {
        for (int k = 0; k < values.length; k++) {
            due("19 dual(" + axis + ", " + n + ", " + k + ")", x.dual(axis, n, k), values[k]);
        }
        due("19 no more", x.dual(axis, n, values.length), BAD);
    }

    private static void promise19() {
        PlaceRectangles x = new PlaceRectangles();
        x.bin(20, 1, 8);
        rowIs(x, 2, 0, 0, 1, 2, 3, 4, 5, 6, 7, 8);
        rowIs(x, 2, 1, 0, 1, 2, 3, 4, 5, 6, 7, 8);
        rowIs(x, 2, 2, 0, 0, 2, 3, 4, 5, 6, 8, 8);
        rowIs(x, 2, 3, 0, 0, 0, 3, 4, 5, 8, 8, 8);
        rowIs(x, 2, 4, 0, 0, 0, 0, 4, 8, 8, 8, 8);
        rowIs(x, 2, 5, 0, 2, 4, 6, 8, 10, 12, 14, 16);
        rowIs(x, 2, 6, 0, 0, 2, 2, 4, 6, 6, 8, 8);
        rowIs(x, 2, 7, 0, 0, 0, 2, 2, 2, 4, 4, 4);
        rowIs(x, 2, 8, 0, 0, 0, 0, 2, 4, 4, 4, 4);
        due("19 no ninth", x.dual(2, 9, 0), BAD);
    }

    private static void promise19OddLength() {
        PlaceRectangles x = new PlaceRectangles();
        x.bin(7, 1, 1);
        rowIs(x, 0, 3, 0, 0, 0, 3, 4, 7, 7, 7);
        rowIs(x, 0, 4, 0, 2, 4, 6, 8, 10, 12, 14);
        rowIs(x, 0, 5, 0, 0, 2, 2, 4, 4, 6, 6);
        rowIs(x, 0, 6, 0, 0, 0, 2, 2, 4, 4, 4);
        due("19 no seventh", x.dual(0, 7, 0), BAD);
    }

    private static void promise19ShortBins() {
        PlaceRectangles x = new PlaceRectangles();
        x.bin(1, 2, 3);
        rowIs(x, 0, 0, 0, 1);
        due("19 of length 1 the first alone", x.dual(0, 1, 0), BAD);
        rowIs(x, 1, 1, 0, 1, 2);
        rowIs(x, 1, 2, 0, 2, 4);
        due("19 of length 2 three", x.dual(1, 3, 0), BAD);
        rowIs(x, 2, 1, 0, 1, 2, 3);
        rowIs(x, 2, 2, 0, 2, 4, 6);
        due("19 of length 3 three", x.dual(2, 3, 0), BAD);
    }

    /** For all numbers whose sum is L at most, the sum of their f is f(L) at most. */
    private static void promise19IsDual() {
        for (int length = 1; length <= 20; length++) {
            PlaceRectangles x = new PlaceRectangles();
            x.bin(length, length, length);
            for (int n = 0; n <= length / 2 * 2; n++) {
                int[] f = new int[length + 1];
                int[] most = new int[length + 1];
                for (int k = 0; k <= length; k++) {
                    f[k] = x.dual(n % 3, n, k);
                    for (int part = 1; part <= k; part++) {
                        most[k] = Math.max(most[k], most[k - part] + f[part]);
                    }
                }
                due("19 f(L) is the most, L = " + length + ", n = " + n, most[length], f[length]);
            }
        }
    }

    private static void promise19Refusals() {
        PlaceRectangles x = new PlaceRectangles();
        for (int n : new int[] {-1, LEAST, MOST, 11}) {
            due("19 axis " + n, x.dual(n, 0, 0), BAD);
            due("19 function " + n, x.dual(0, n, 0), BAD);
            due("19 x = " + n, x.dual(0, 0, n), BAD);
        }
        due("19 axis 3", x.dual(3, 0, 0), BAD);
        due("19 the last function", x.dual(2, 10, 10), 4);
        due("19 x = 0", x.dual(2, 10, 0), 0);
    }

    private static void promise20() {
        PlaceRectangles x = new PlaceRectangles();
        x.bin(8, 7, 10);
        due("20 no boxes", x.need(0, 0, 0, 0), 0);
        due("20 has", x.need(0, 0, 0, 1), 560);
        due("20 has by others", x.need(8, 6, 10, 1), 4 * 4 * 4);
        x.box(5, 4, 3);
        due("20 need", x.need(0, 0, 0, 0), 60);
        due("20 8 * 4 * 3", x.need(4, 0, 0, 0), 96);
        due("20 8 * 4 * 0", x.need(4, 0, 4, 0), 0);
        x.turns(0, 33);
        due("20 the least of 8 * 4 * 3 and 0 * 4 * 5", x.need(4, 0, 0, 0), 0);
        due("20 both have the same volume", x.need(0, 0, 0, 0), 60);
        x.box(2, 2, 2);
        due("20 the sum", x.need(0, 0, 0, 0), 68);
        due("20 weights do not count", x.weight(0, 500), 1);
        due("20 the same", x.need(0, 0, 0, 0), 68);
        PlaceRectangles y = new PlaceRectangles();
        y.bin(20, 20, 20);
        for (int box = 0; box < 8; box++) {
            y.box(20, 20, 20);
        }
        due("20 the most", y.need(11, 11, 11, 0), 8 * 64000);
        due("20 the most has", y.need(11, 11, 11, 1), 64000);
    }

    private static void promise20BoxesThatDoNotCount() {
        PlaceRectangles x = new PlaceRectangles();
        x.bin(4, 4, 1);
        x.box(1, 2, 3);
        due("20 it lies nowhere: one more than HAS", x.need(0, 0, 0, 0), 17);
        due("20 by other functions", x.need(3, 3, 0, 0), 8 * 8 + 1);
        x.turns(0, 63);
        due("20 two turns count", x.need(0, 0, 0, 0), 6);
        due("20 the least of 2 * 4 and 3 * 2", x.need(0, 2, 0, 0), 6);
        due("20 the least of 2 * 4 and 4 * 2", x.need(2, 2, 0, 0), 8);
        x.box(5, 1, 1);
        x.box(1, 5, 1);
        due("20 two of them", x.need(0, 0, 0, 0), 6 + 17 + 17);
    }

    private static void promise20Refusals() {
        PlaceRectangles x = new PlaceRectangles();
        x.bin(4, 7, 1);
        due("20 the last ones", x.need(4, 6, 0, 1), 4 * 4 * 1);
        due("20 n0", x.need(5, 0, 0, 0), BAD);
        due("20 n1", x.need(0, 7, 0, 0), BAD);
        due("20 n2", x.need(0, 0, 1, 0), BAD);
        for (int n : new int[] {-1, LEAST, MOST}) {
            due("20 n0 = " + n, x.need(n, 0, 0, 0), BAD);
            due("20 n1 = " + n, x.need(0, n, 0, 1), BAD);
            due("20 n2 = " + n, x.need(0, 0, n, 0), BAD);
            due("20 what = " + n, x.need(0, 0, 0, n), BAD);
        }
        due("20 what = 2", x.need(0, 0, 0, 2), BAD);
    }

    private static void proofIs(PlaceRectangles x, int n0, int n1, int n2, int boxes) {
        due("21 proof(0)", x.proof(0), n0);
        due("21 proof(1)", x.proof(1), n1);
        due("21 proof(2)", x.proof(2), n2);
        due("21 proof(3)", x.proof(3), boxes);
    }

    private static void promise21() {
        PlaceRectangles x = new PlaceRectangles();
        proofIs(x, NONE, NONE, NONE, NONE);
        x.box(10, 10, 10);
        proofIs(x, NONE, NONE, NONE, NONE);
        x.box(1, 1, 1);
        proofIs(x, 0, 0, 0, 3);
        x.weight(0, 3);
        proofIs(x, 0, 0, 0, 3);
        x.bin(20, 10, 10);
        proofIs(x, NONE, NONE, NONE, NONE);
        x.bin(10, 10, 9);
        proofIs(x, 0, 0, 0, 1);
        x.clear();
        proofIs(x, NONE, NONE, NONE, NONE);
    }

    /**
     * So many boxes in rows of this length, which lie along the axis beside one another, that one
     * is too many: their volume fits, so the proof is the first function that sees the waste.
     */
    private static void promise21FirstOnEachAxis() {
        for (int axis = 0; axis < 3; axis++) {
            // Four rows of 5 hold four boxes of 4; function 2 makes them as long as the row.
            PlaceRectangles x = rows(axis, 5, 4, 4);
            proofIs(x, NONE, NONE, NONE, NONE);
            x.box(axis == 0 ? 4 : 1, axis == 1 ? 4 : 1, axis == 2 ? 4 : 1);
            proofIs(x, axis == 0 ? 2 : 0, axis == 1 ? 2 : 0, axis == 2 ? 2 : 0, 31);
            // Two rows of 8 hold four boxes of 3; function 7 counts in steps of 3, 4 + 3 being 7.
            PlaceRectangles y = rows(axis, 8, 2, 3);
            proofIs(y, NONE, NONE, NONE, NONE);
            y.box(1, 1, 1);
            for (int box = 0; box < 3; box++) {
                y.box(axis == 0 ? 3 : 1, axis == 1 ? 3 : 1, axis == 2 ? 3 : 1);
            }
            proofIs(y, axis == 0 ? 7 : 0, axis == 1 ? 7 : 0, axis == 2 ? 7 : 0, 1 + 2 + 8 + 16 + 32);
            due("21 and so it is", y.run(20000), 2);
        }
    }

    private static PlaceRectangles rows(int axis, int length, int count, int extent) {
        PlaceRectangles x = new PlaceRectangles();
        int across = (axis + 1) % 3;
        x.bin(axis == 0 ? length : across == 0 ? count : 1,
                axis == 1 ? length : across == 1 ? count : 1,
                axis == 2 ? length : across == 2 ? count : 1);
        for (int box = 0; box < count; box++) {
            x.box(axis == 0 ? extent : 1, axis == 1 ? extent : 1, axis == 2 ? extent : 1);
        }
        return x;
    }

    private static void promise21AllTurnsOfAllBoxes() {
        PlaceRectangles x = new PlaceRectangles();
        x.bin(20, 20, 20);
        for (int box = 0; box < 8; box++) {
            x.box(18, 1 + box, 9 + box);
            x.turns(box, 63);
        }
        long volumes = 0;
        for (int box = 0; box < 8; box++) {
            volumes += 18L * (1 + box) * (9 + box);
        }
        due("20 of 48 turns", x.need(0, 0, 0, 0), volumes);
        due("21 their volumes are above", x.proof(3) > 0 ? 1 : 0, volumes > 8000 ? 1 : 0);
        x.clear();
        for (int box = 0; box < 8; box++) {
            x.box(1, 2, 3 + box);
            x.turns(box, 63);
        }
        proofIs(x, NONE, NONE, NONE, NONE);
    }

    private static void promise21Reason() {
        PlaceRectangles x = new PlaceRectangles();
        x.bin(4, 1, 1);
        x.box(1, 1, 1);
        x.box(2, 1, 1);
        x.box(3, 1, 1);
        x.box(4, 1, 1);
        // 10 of 4: without 0: 9, without 1: 7, without 2: 4 is not above, so it stays; without 3: 3.
        proofIs(x, 0, 0, 0, 12);
        x.box(5, 1, 1);
        // The last one lies nowhere: it alone is the reason, the others go ahead of it.
        proofIs(x, 0, 0, 0, 16);
        PlaceRectangles y = new PlaceRectangles();
        y.bin(4, 1, 1);
        y.box(5, 1, 1);
        y.box(1, 1, 1);
        y.box(6, 1, 1);
        proofIs(y, 0, 0, 0, 4);
    }

    private static void promise21Refusals() {
        PlaceRectangles x = new PlaceRectangles();
        for (int what : new int[] {-1, 4, LEAST, MOST}) {
            due("21 proof(" + what + ")", x.proof(what), BAD);
        }
    }
}
