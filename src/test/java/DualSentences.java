import java.util.Random;

/** The words about dual functions, and promises 19 to 21. */
final class DualSentences {
    private static final int BAD = Given.BAD, NONE = Given.NONE;

    private DualSentences() {
    }

    static void all(Sentences s) {
        functionZero(s);
        firstKind(s);
        secondKind(s);
        isDual(s);
        need(s);
        has(s);
        noPlan(s);
        turnsThatDoNotCount(s);
        boxesThatDoNotCount(s);
        theProof(s);
        theProofIsAbove(s);
        theProofByAxes(s);
        theProofOfMany(s);
        reason(s);
        reasonOfOne(s);
        promise19(s);
        promise19Bad(s);
        promise20(s);
        promise20Bad(s);
        promise21(s);
        promise21None(s);
        promise21Bad(s);
    }

    private static void rowIs(Sentences s, int length, int n, int... values) {
        for (int axis = 0; axis < 3; axis++) {
            PlaceRectangles x = Given.bin(axis == 0 ? length : 3, axis == 1 ? length : 3, axis == 2 ? length : 3);
            for (int k = 0; k < values.length; k++) {
                s.due("length " + length + ": dual(" + axis + ", " + n + ", " + k + ")", x.dual(axis, n, k), values[k]);
            }
            s.due("no more: dual(" + axis + ", " + n + ", " + values.length + ")", x.dual(axis, n, values.length), BAD);
        }
    }

    private static void functionZero(Sentences s) {
        s.sentence("Terms", "DUAL FUNCTIONS of an axis of length L; h is L / 2, cut off: 0: f(x) = x.");
        rowIs(s, 1, 0, 0, 1);
        rowIs(s, 2, 0, 0, 1, 2);
        rowIs(s, 20, 0, 0, 1, 2, 3, 4, 5, 6, 7, 8, 9, 10, 11, 12, 13, 14, 15, 16, 17, 18, 19, 20);
        for (int length = 1; length <= 20; length++) {
            PlaceRectangles x = Given.bin(length, 1, 1);
            // L / 2 of both kinds, cut off: none of length 1.
            int last = length % 2 == 0 ? length : length - 1;
            s.isTrue("the last function of length " + length, x.dual(0, last, 0) != BAD);
            s.due("the one behind it", x.dual(0, last + 1, 0), BAD);
        }
    }

    private static void firstKind(Sentences s) {
        s.sentence("Terms", "k = 1 .. h: f(x) = L if x is above L - k, 0 if x is below k, else x.");
        rowIs(s, 2, 1, 0, 1, 2);
        rowIs(s, 3, 1, 0, 1, 2, 3);
        rowIs(s, 4, 1, 0, 1, 2, 3, 4);
        rowIs(s, 4, 2, 0, 0, 2, 4, 4);
        rowIs(s, 5, 1, 0, 1, 2, 3, 4, 5);
        rowIs(s, 5, 2, 0, 0, 2, 3, 5, 5);
        rowIs(s, 8, 2, 0, 0, 2, 3, 4, 5, 6, 8, 8);
        rowIs(s, 8, 3, 0, 0, 0, 3, 4, 5, 8, 8, 8);
        rowIs(s, 8, 4, 0, 0, 0, 0, 4, 8, 8, 8, 8);
        rowIs(s, 9, 4, 0, 0, 0, 0, 4, 5, 9, 9, 9, 9);
        rowIs(s, 20, 10, 0, 0, 0, 0, 0, 0, 0, 0, 0, 0, 10, 20, 20, 20, 20, 20, 20, 20, 20, 20, 20);
        rowIs(s, 19, 9, 0, 0, 0, 0, 0, 0, 0, 0, 0, 9, 10, 19, 19, 19, 19, 19, 19, 19, 19, 19);
    }

    private static void secondKind(Sentences s) {
        s.sentence("Terms", "h + k, k being 1 .. h: with q = L / k, cut off: 2 * (x / k) if 2 x is below L,"
                + " q if 2 x is L, else 2 * (q - (L - x) / k), cut off.");
        rowIs(s, 2, 2, 0, 2, 4);
        rowIs(s, 3, 2, 0, 2, 4, 6);
        rowIs(s, 4, 3, 0, 2, 4, 6, 8);
        rowIs(s, 4, 4, 0, 0, 2, 4, 4);
        rowIs(s, 5, 3, 0, 2, 4, 6, 8, 10);
        rowIs(s, 5, 4, 0, 0, 2, 2, 4, 4);
        rowIs(s, 7, 5, 0, 0, 2, 2, 4, 4, 6, 6);
        rowIs(s, 7, 6, 0, 0, 0, 2, 2, 4, 4, 4);
        rowIs(s, 8, 5, 0, 2, 4, 6, 8, 10, 12, 14, 16);
        rowIs(s, 8, 6, 0, 0, 2, 2, 4, 6, 6, 8, 8);
        // At the half q, which is no even number here.
        rowIs(s, 10, 8, 0, 0, 0, 2, 2, 3, 4, 4, 6, 6, 6);
        rowIs(s, 20, 20, 0, 0, 0, 0, 0, 0, 0, 0, 0, 0, 2, 4, 4, 4, 4, 4, 4, 4, 4, 4, 4);
        rowIs(s, 20, 17, 0, 0, 0, 0, 0, 0, 0, 2, 2, 2, 2, 2, 2, 2, 4, 4, 4, 4, 4, 4, 4);
        rowIs(s, 19, 18, 0, 0, 0, 0, 0, 0, 0, 0, 0, 2, 2, 4, 4, 4, 4, 4, 4, 4, 4, 4);
    }

    private static void isDual(Sentences s) {
        s.sentence("Terms", "(For all numbers whose sum is L at most, the sum of their f is f(L) at most.)");
        for (int length = 1; length <= 20; length++) {
            for (int n = 0; n <= length / 2 * 2; n++) {
                PlaceRectangles x = Given.bin(length, length, length);
                int[] most = new int[length + 1];
                for (int sum = 1; sum <= length; sum++) {
                    for (int part = 1; part <= sum; part++) {
                        most[sum] = Math.max(most[sum], most[sum - part] + x.dual(n % 3, n, part));
                    }
                }
                s.due("length " + length + ", function " + n, most[length], x.dual(n % 3, n, length));
            }
        }
    }

    private static void need(Sentences s) {
        s.sentence("Terms", "Of three of them, one an axis: NEED is the sum, over the boxes, of the least,"
                + " over their turns, of the product of f of their extents;");
        PlaceRectangles x = Given.bin(8, 7, 10);
        s.due("no boxes", x.need(0, 0, 0, 0), 0);
        x.box(5, 4, 3);
        s.due("5 * 4 * 3", x.need(0, 0, 0, 0), 60);
        s.due("8 * 4 * 3 by function 4 of axis 0", x.need(4, 0, 0, 0), 96);
        s.due("5 * 4 * 0 by function 4 of axis 2", x.need(0, 0, 4, 0), 0);
        s.due("5 * 2 * 3 by function 6 of axis 1", x.need(0, 6, 0, 0), 5 * 2 * 3);
        x.turns(0, 33);
        s.due("the least of 8 * 4 * 3 and 0 * 4 * 5", x.need(4, 0, 0, 0), 0);
        x.turns(0, 3);
        s.due("the least of 8 * 4 * 3 and 8 * 3 * 4", x.need(4, 0, 0, 0), 96);
        s.due("the least of 5 * 2 * 3 and 5 * 2 * 4 by function 6 of axis 1", x.need(0, 6, 0, 0), 30);
        x.box(2, 2, 2);
        s.due("the sum", x.need(0, 0, 0, 0), 68);
        x.weight(0, 1000);
        s.due("weights do not matter", x.need(0, 0, 0, 0), 68);
        x.lay(1, 0, 0, 0, 0);
        s.due("what is laid does not matter", x.need(0, 0, 0, 0), 68);
        PlaceRectangles most = Given.bin(20, 20, 20, Given.times(8, 20, 20, 20));
        s.due("the most", most.need(11, 11, 11, 0), 8 * 40 * 40 * 40);
        PlaceRectangles turned = Given.bin(20, 20, 20, Given.times(8, 11, 12, 13));
        for (int box = 0; box < 8; box++) {
            turned.turns(box, 63);
        }
        s.due("eight boxes of six turns: 11 * 12 * 13", turned.need(0, 0, 0, 0), 8 * 1716);
        s.due("the least is 20 * 11 * 12 of each", turned.need(10, 0, 0, 0), 8 * 2640);
        s.due("the least is 11 * 20 * 12 of each", turned.need(0, 10, 0, 0), 8 * 2640);
        s.due("the least is 11 * 12 * 20 of each", turned.need(0, 0, 10, 0), 8 * 2640);
    }

    private static void has(Sentences s) {
        s.sentence("Terms", "HAS is the product of f of the bin's lengths.");
        PlaceRectangles x = Given.bin(8, 7, 10);
        s.due("8 * 7 * 10", x.need(0, 0, 0, 1), 560);
        s.due("8 * 4 * 10", x.need(0, 6, 0, 1), 320);
        s.due("4 * 7 * 10", x.need(8, 0, 0, 1), 280);
        s.due("8 * 7 * 6", x.need(0, 0, 8, 1), 336);
        s.due("16 * 14 * 20", x.need(5, 4, 6, 1), 16 * 14 * 20);
        s.due("the least", Given.bin(1, 1, 1).need(0, 0, 0, 1), 1);
        s.due("the most", Given.bin(20, 20, 20).need(11, 11, 11, 1), 64000);
        x.box(20, 20, 20);
        s.due("boxes do not matter", x.need(0, 0, 0, 1), 560);
    }

    private static void noPlan(Sentences s) {
        s.sentence("Terms", "(If NEED is above HAS, there is no plan.");
        int proved = 0;
        for (int k = 0; k < 400; k++) {
            PlaceRectangles x = Given.bin(2 + k % 5, 2 + k / 5 % 3, 1 + k / 15 % 3);
            for (int box = 0; box < 4; box++) {
                x.box(1 + (k * 7 + box) % 3, 1 + (k + box * 5) % 3, 1 + (k / 3 + box) % 2);
                x.turns(box, 1 + (k * 11 + box * 3) % 63);
            }
            if (x.proof(0) != NONE) {
                proved++;
                s.due("of bin and boxes " + k, runToEnd(x), 2);
            }
        }
        s.isTrue("some were proved", proved > 20);
    }

    private static int runToEnd(PlaceRectangles x) {
        int told = 0;
        for (int call = 0; call < 300 && told == 0; call++) {
            told = x.run(20000);
        }
        return told;
    }

    private static void turnsThatDoNotCount(Sentences s) {
        s.sentence("Terms", "A box with an extent above the bin's length in a turn: that turn does not count;");
        PlaceRectangles x = Given.bin(4, 4, 1, Given.of(1, 2, 3));
        x.turns(0, 63);
        s.due("1 is axis 2's extent in two turns, both 2 * 3", x.need(0, 0, 0, 0), 6);
        // Of turns 3 and 5, which are 2 3 1 and 3 2 1: f is 0, 2, 4 of 1, 2, 3 by function 2.
        s.due("2 * 3 and 4 * 2 by function 2 of axis 0", x.need(2, 0, 0, 0), 6);
        s.due("2 * 4 and 3 * 2 by function 2 of axis 1", x.need(0, 2, 0, 0), 6);
        s.due("2 * 4 and 4 * 2 by both", x.need(2, 2, 0, 0), 8);
        x.bin(4, 4, 2);
        s.due("with turns of 0 on axis 0", x.need(2, 0, 0, 0), 0);
        for (int axis = 0; axis < 3; axis++) {
            PlaceRectangles y = Given.bin(6, 6, 6, Given.of(axis == 0 ? 6 : 1, axis == 1 ? 6 : 1, axis == 2 ? 6 : 1));
            s.due("as long as the bin: it counts", y.need(0, 0, 0, 0), 6);
            y.bin(axis == 0 ? 5 : 6, axis == 1 ? 5 : 6, axis == 2 ? 5 : 6);
            s.due("one longer: it does not", y.need(0, 0, 0, 0), 181);
        }
    }

    private static void boxesThatDoNotCount(Sentences s) {
        s.sentence("Terms", "one without any that counts needs one more than HAS has.)");
        PlaceRectangles x = Given.bin(4, 4, 1, Given.of(1, 2, 3));
        s.due("one more than 16", x.need(0, 0, 0, 0), 17);
        s.due("one more than 8 * 8", x.need(3, 3, 0, 0), 65);
        x.box(5, 1, 1);
        s.due("two of them", x.need(0, 0, 0, 0), 34);
        x.box(2, 2, 1);
        s.due("and one that counts", x.need(0, 0, 0, 0), 38);
        x.turns(0, 8);
        s.due("one of them counts now, by turn 3", x.need(0, 0, 0, 0), 6 + 17 + 4);
        PlaceRectangles most = Given.bin(19, 20, 20, Given.times(8, 20, 20, 20));
        for (int box = 0; box < 8; box++) {
            most.turns(box, 63);
        }
        s.due("eight of them", most.need(10, 11, 11, 0), 8 * (38 * 40 * 40 + 1));
        PlaceRectangles alone = Given.bin(1, 1, 1, Given.of(2, 1, 1));
        s.due("it is a proof by itself", alone.proof(0), 0);
        s.due("and its own reason", alone.proof(3), 1);
    }

    private static void proofIs(Sentences s, PlaceRectangles x, int n0, int n1, int n2, int boxes) {
        int[] due = {n0, n1, n2, boxes};
        for (int what = 0; what < 4; what++) {
            s.due("proof(" + what + ")", x.proof(what), due[what]);
        }
    }

    /** So many boxes of an extent on an axis, and a bin of so many rows of a length on that axis. */
    private static PlaceRectangles rows(int axis, int length, int extent, int rows, int count) {
        int[] bin = {1, 1, 1};
        int[] box = {1, 1, 1};
        bin[axis] = length;
        bin[(axis + 1) % 3] = rows;
        box[axis] = extent;
        return Given.bin(bin[0], bin[1], bin[2], Given.times(count, box[0], box[1], box[2]));
    }

    private static void theProof(Sentences s) {
        s.sentence("Terms",
                "THE PROOF are the first three, by the number on axis 0, then 1, then 2, whose NEED is above HAS.");
        for (int axis = 0; axis < 3; axis++) {
            int a = axis == 0 ? 1 : 0, b = axis == 1 ? 1 : 0, c = axis == 2 ? 1 : 0;
            // Four rows of 5 and five boxes of 4: 20 is not above 20, but function 2 makes 4 a 5.
            proofIs(s, rows(axis, 5, 4, 4, 5), 2 * a, 2 * b, 2 * c, 31);
            // Two rows of 8 and five boxes of 3: function 7 counts 2 of 4 in steps of 3.
            proofIs(s, rows(axis, 8, 3, 2, 5), 7 * a, 7 * b, 7 * c, 31);
            // A row of 6 and two boxes of 4: 8 is above 6 by the first one.
            proofIs(s, rows(axis, 6, 4, 1, 2), 0, 0, 0, 3);
        }
    }

    private static void theProofIsAbove(Sentences s) {
        s.sentence("Terms", "whose NEED is above HAS.");
        PlaceRectangles x = Given.bin(2, 2, 2, Given.times(7, 1, 1, 1));
        proofIs(s, x, NONE, NONE, NONE, NONE);
        x.box(1, 1, 1);
        proofIs(s, x, NONE, NONE, NONE, NONE);
        s.due("NEED", x.need(0, 0, 0, 0), 8);
        s.due("HAS", x.need(0, 0, 0, 1), 8);
        x.clear();
        for (int box = 0; box < 7; box++) {
            x.box(1, 1, 1);
        }
        x.box(1, 1, 2);
        proofIs(s, x, 0, 0, 0, 255);
        // By function 2 each of the four boxes needs 5 of 20.
        PlaceRectangles rows = rows(0, 5, 4, 4, 4);
        proofIs(s, rows, NONE, NONE, NONE, NONE);
        s.due("NEED", rows.need(2, 0, 0, 0), 20);
        s.due("HAS", rows.need(2, 0, 0, 1), 20);
    }

    private static void theProofByAxes(Sentences s) {
        s.sentence("Terms", "by the number on axis 0, then 1, then 2,");
        // Function 2 of each of the two long axes proves these: the later axis comes first.
        firstOfAllIs(s, 0, 0, 2, 3, Given.bin(5, 1, 5, Given.of(4, 1, 4), Given.of(2, 1, 4)));
        firstOfAllIs(s, 0, 2, 0, 3, Given.bin(5, 5, 1, Given.of(4, 4, 1), Given.of(2, 4, 1)));
        firstOfAllIs(s, 0, 0, 2, 3, Given.bin(1, 5, 5, Given.of(1, 4, 4), Given.of(1, 2, 4)));
        // It takes two or all three axes to prove these.
        firstOfAllIs(s, 2, 2, 0, 3, Given.bin(5, 4, 2, Given.of(3, 2, 1), Given.of(4, 3, 2)));
        firstOfAllIs(s, 2, 4, 0, 3, Given.bin(5, 5, 1, Given.of(3, 5, 1), Given.of(4, 2, 1)));
        firstOfAllIs(s, 4, 2, 0, 3, Given.bin(5, 5, 1, Given.of(2, 4, 1), Given.of(4, 3, 1)));
        firstOfAllIs(s, 2, 0, 2, 3, Given.bin(5, 2, 4, Given.of(4, 2, 3), Given.of(4, 1, 2)));
        firstOfAllIs(s, 0, 4, 2, 3, Given.bin(2, 5, 5, Given.of(2, 2, 4), Given.of(2, 5, 3), Given.of(1, 1, 1)));
        firstOfAllIs(s, 4, 0, 4, 14,
                Given.bin(5, 3, 5, Given.of(1, 2, 1), Given.of(3, 1, 3), Given.of(2, 3, 4), Given.of(5, 3, 2)));
        firstOfAllIs(s, 2, 2, 2, 3, Given.bin(4, 4, 4, Given.of(3, 3, 3), Given.of(2, 3, 2)));
        firstOfAllIs(s, 2, 2, 4, 3, Given.bin(5, 5, 5, Given.of(4, 4, 2), Given.of(5, 3, 4)));
    }

    /** The proof is so, and no three ahead of it have a NEED above HAS. */
    private static void firstOfAllIs(Sentences s, int n0, int n1, int n2, int boxes, PlaceRectangles x) {
        proofIs(s, x, n0, n1, n2, boxes);
        int[] functions = {Given.length(x, 0) / 2 * 2 + 1, Given.length(x, 1) / 2 * 2 + 1,
                Given.length(x, 2) / 2 * 2 + 1};
        int last = (n0 * functions[1] + n1) * functions[2] + n2;
        for (int k = 0; k <= last; k++) {
            int a = k / functions[2] / functions[1], b = k / functions[2] % functions[1], c = k % functions[2];
            boolean above = x.need(a, b, c, 0) > x.need(a, b, c, 1);
            s.due("NEED is above HAS by " + a + ", " + b + ", " + c, above ? 1 : 0, k == last ? 1 : 0);
        }
    }

    /** Bins and boxes of many sizes, whose proof is compared with all threes, one after the other, by need(). */
    private static void theProofOfMany(Sentences s) {
        s.sentence("Terms", "THE PROOF are the first three,");
        int beyondTheFirst = 0;
        for (int k = 0; k < 400; k++) {
            int[] first = firstByNeed(k);
            PlaceRectangles x = someBoxes(k);
            for (int axis = 0; axis < 3; axis++) {
                s.due("of bin and boxes " + k + ": proof(" + axis + ")", x.proof(axis), first[axis]);
            }
            beyondTheFirst += first[0] + first[1] + first[2] > 0 ? 1 : 0;
        }
        s.isTrue("many are beyond the first three functions", beyondTheFirst > 40);
    }

    /** Boxes of a half, a third, a fourth or all of the bin, or one more, as long as their volume goes in. */
    private static PlaceRectangles someBoxes(int k) {
        Random random = new Random(k);
        int[] bin = {1 + random.nextInt(12), 1 + random.nextInt(12), 1 + random.nextInt(4)};
        PlaceRectangles x = Given.bin(bin[0], bin[1], bin[2]);
        int left = bin[0] * bin[1] * bin[2];
        for (int box = 0; box < 8; box++) {
            int[] sides = new int[3];
            for (int axis = 0; axis < 3; axis++) {
                sides[axis] = Math.max(1, Math.min(bin[axis], bin[axis] / (1 + random.nextInt(4)) + random.nextInt(2)));
            }
            if (sides[0] * sides[1] * sides[2] <= left) {
                left -= sides[0] * sides[1] * sides[2];
                x.turns(x.box(sides[0], sides[1], sides[2]), k % 2 == 0 ? 1 : 1 + random.nextInt(63));
            }
        }
        return x;
    }

    private static int[] firstByNeed(int k) {
        PlaceRectangles x = someBoxes(k);
        int[] functions = new int[3];
        for (int axis = 0; axis < 3; axis++) {
            functions[axis] = Given.length(x, axis) / 2 * 2 + 1;
        }
        for (int n = 0; n < functions[0] * functions[1] * functions[2]; n++) {
            // An object is good for 512 calls.
            x = n % 200 == 0 ? someBoxes(k) : x;
            int a = n / functions[2] / functions[1], b = n / functions[2] % functions[1], c = n % functions[2];
            if (x.need(a, b, c, 0) > x.need(a, b, c, 1)) {
                return Given.of(a, b, c);
            }
        }
        return Given.of(NONE, NONE, NONE);
    }

    private static void reason(Sentences s) {
        s.sentence("Terms", "ITS REASON: of all boxes, one by one by numbers, each goes without which"
                + " (and those gone before) NEED is above HAS yet; those that are left.");
        PlaceRectangles x = Given.bin(4, 1, 1, Given.of(1, 1, 1), Given.of(2, 1, 1), Given.of(3, 1, 1),
                Given.of(4, 1, 1));
        // 10 of 4: without 0 it is 9, without 1 then 7, without 2 then 4, which is not above; without 3 then 3.
        proofIs(s, x, 0, 0, 0, 4 + 8);
        PlaceRectangles y = Given.bin(4, 1, 1, Given.of(4, 1, 1), Given.of(3, 1, 1), Given.of(2, 1, 1),
                Given.of(1, 1, 1));
        // Without 0 it is 6, without 1 then 3, which is not above; without 2 then 4; without 3 then 5.
        proofIs(s, y, 0, 0, 0, 2 + 4);
        PlaceRectangles z = Given.bin(2, 2, 2, Given.times(8, 2, 1, 1));
        // Sixteen of eight: three go, and five are left, which need ten.
        proofIs(s, z, 0, 0, 0, 8 + 16 + 32 + 64 + 128);
        PlaceRectangles all = Given.bin(3, 3, 1, Given.of(1, 1, 1), Given.of(3, 3, 1));
        proofIs(s, all, 0, 0, 0, 3);
        // By the function that proves it, not by volume: box 1 is nothing by function 7, so it goes.
        PlaceRectangles rows = rows(0, 8, 3, 2, 1);
        rows.box(1, 1, 1);
        for (int box = 0; box < 4; box++) {
            rows.box(3, 1, 1);
        }
        proofIs(s, rows, 7, 0, 0, 1 + 4 + 8 + 16 + 32);
    }

    private static void reasonOfOne(Sentences s) {
        s.sentence("Terms", "those that are left.");
        PlaceRectangles x = Given.bin(4, 4, 4, Given.of(5, 1, 1), Given.of(1, 1, 1), Given.of(5, 1, 1),
                Given.of(4, 4, 4));
        // Boxes 0 and 2 lie nowhere: the last one of these is left alone.
        proofIs(s, x, 0, 0, 0, 4);
        x.turns(2, 63);
        proofIs(s, x, 0, 0, 0, 4);
        x.bin(5, 4, 4);
        // By function 2 of axis 0: 5, 0, 5 and 80 of 80; one of 5 beside box 3 is enough.
        proofIs(s, x, 2, 0, 0, 4 + 8);
        x.box(4, 4, 1);
        // 5 + 1 + 5 + 64 + 16 of 80: 0, 1 and 2 go as long as it is above, and 64 + 16 is not.
        proofIs(s, x, 0, 0, 0, 4 + 8 + 16);
    }

    private static void promise19(Sentences s) {
        s.sentence("Promise 19", "Value of dual function n of an axis, of x.");
        PlaceRectangles x = Given.bin(20, 1, 7, Given.of(20, 20, 20));
        s.due("x = 0", x.dual(0, 0, 0), 0);
        s.due("x = L", x.dual(0, 0, 20), 20);
        s.due("axis 1: x = 0", x.dual(1, 0, 0), 0);
        s.due("axis 1: x = L", x.dual(1, 0, 1), 1);
        s.due("axis 2: the last function, x = 0", x.dual(2, 6, 0), 0);
        s.due("axis 2: the last function, x = L", x.dual(2, 6, 7), 4);
        s.due("axis 0: the last function, x = L", x.dual(0, 20, 20), 4);
        s.due("axis 0: the last function of the first kind", x.dual(0, 10, 11), 20);
        s.due("axis 0: the first function of the second kind", x.dual(0, 11, 11), 22);
        s.due("axis 2: the last function of the first kind", x.dual(2, 3, 5), 7);
        s.due("axis 2: the first function of the second kind", x.dual(2, 4, 5), 10);
        x.bin(20, 8, 7);
        s.due("of another bin", x.dual(1, 8, 8), 4);
    }

    private static void promise19Bad(Sentences s) {
        s.sentence("Promise 19", "BAD: no such axis, n; x is not 0 .. the bin's length.");
        PlaceRectangles x = Given.bin(10, 1, 7);
        int[] lengths = {10, 1, 7};
        for (int axis = 0; axis < 3; axis++) {
            for (int n : Given.wild(-1, lengths[axis] / 2 * 2 + 1)) {
                s.due("dual(" + axis + ", " + n + ", 0)", x.dual(axis, n, 0), BAD);
            }
            for (int n : Given.wild(-1, lengths[axis] + 1)) {
                s.due("dual(" + axis + ", 0, " + n + ")", x.dual(axis, 0, n), BAD);
            }
            for (int n = 0; n <= lengths[axis] / 2 * 2; n++) {
                s.due("too small: dual(" + axis + ", " + n + ", -1)", x.dual(axis, n, -1), BAD);
                s.due("too large: dual(" + axis + ", " + n + ", L + 1)", x.dual(axis, n, lengths[axis] + 1), BAD);
            }
        }
        for (int axis : Given.wild(-1, 3)) {
            s.due("dual(" + axis + ", 0, 0)", x.dual(axis, 0, 0), BAD);
            s.due("dual(" + axis + ", " + axis + ", " + axis + ")", x.dual(axis, axis, axis), BAD);
        }
    }

    private static void promise20(Sentences s) {
        s.sentence("Promise 20", "NEED (what = 0), HAS (1) of three dual functions.");
        PlaceRectangles x = Given.bin(4, 5, 6, Given.of(2, 3, 4));
        s.due("NEED", x.need(0, 0, 0, 0), 24);
        s.due("HAS", x.need(0, 0, 0, 1), 120);
        // 2 is the half of 4: 2 steps of 2; 3 of 5: 2; 4 of 6: 4 by steps of 3.
        s.due("NEED by the last ones", x.need(4, 4, 6, 0), 2 * 2 * 4);
        s.due("HAS by the last ones", x.need(4, 4, 6, 1), 4 * 4 * 4);
        s.due("NEED by one of each kind", x.need(2, 0, 4, 0), 2 * 3 * 8);
        s.due("HAS by one of each kind", x.need(2, 0, 4, 1), 4 * 5 * 12);
        x.box(1, 1, 1);
        s.due("with a box more", x.need(0, 0, 0, 0), 25);
        x.bin(5, 5, 6);
        s.due("in another bin", x.need(0, 0, 0, 1), 150);
        x.clear();
        s.due("without boxes", x.need(0, 0, 0, 0), 0);
    }

    private static void promise20Bad(Sentences s) {
        s.sentence("Promise 20", "BAD.");
        PlaceRectangles x = Given.bin(4, 7, 1, Given.of(1, 1, 1));
        for (int what = 0; what <= 1; what++) {
            for (int n : Given.wild(-1, 5)) {
                s.due("need(" + n + ", 0, 0, " + what + ")", x.need(n, 0, 0, what), BAD);
            }
            for (int n : Given.wild(-1, 7)) {
                s.due("need(0, " + n + ", 0, " + what + ")", x.need(0, n, 0, what), BAD);
            }
            for (int n : Given.wild(-1, 1)) {
                s.due("need(0, 0, " + n + ", " + what + ")", x.need(0, 0, n, what), BAD);
            }
        }
        for (int what : Given.wild(-1, 2)) {
            s.due("need(0, 0, 0, " + what + ")", x.need(0, 0, 0, what), BAD);
        }
        s.due("the last ones", x.need(4, 6, 0, 1), 4 * 4);
    }

    private static void promise21(Sentences s) {
        s.sentence("Promise 21",
                "THE PROOF: what = 0 .. 2 the number on that axis, 3 its REASON (a bit for each box);");
        PlaceRectangles x = Given.bin(1, 1, 1, Given.times(8, 1, 1, 1));
        proofIs(s, x, 0, 0, 0, 64 + 128);
        // Two rows of 5 on axis 2, each with a box of 4; function 2 proves that a third one is too many.
        PlaceRectangles y = Given.bin(2, 1, 5, Given.times(3, 1, 1, 4));
        proofIs(s, y, 0, 0, 0, 7);
        y.clear();
        y.box(1, 1, 4);
        y.box(1, 1, 4);
        proofIs(s, y, NONE, NONE, NONE, NONE);
        y.box(1, 1, 2);
        proofIs(s, y, 0, 0, 2, 7);
        y.weight(0, 0);
        proofIs(s, y, 0, 0, 2, 7);
        y.run(1);
        proofIs(s, y, 0, 0, 2, 7);
        y.bin(2, 1, 6);
        proofIs(s, y, NONE, NONE, NONE, NONE);
        y.bin(2, 1, 5);
        y.turns(2, 16);
        proofIs(s, y, NONE, NONE, NONE, NONE);
    }

    private static void promise21None(Sentences s) {
        s.sentence("Promise 21", "NONE: there is no such proof.");
        PlaceRectangles x = new PlaceRectangles();
        proofIs(s, x, NONE, NONE, NONE, NONE);
        x.box(10, 10, 10);
        proofIs(s, x, NONE, NONE, NONE, NONE);
        // There is no plan, but none of these functions shows it.
        PlaceRectangles y = Given.bin(3, 3, 3, Given.of(2, 2, 2), Given.of(2, 2, 2));
        s.due("no plan", y.run(20000), 2);
        proofIs(s, y, NONE, NONE, NONE, NONE);
        y.box(3, 3, 3);
        proofIs(s, y, 0, 0, 0, 6);
        y.clear();
        proofIs(s, y, NONE, NONE, NONE, NONE);
    }

    private static void promise21Bad(Sentences s) {
        s.sentence("Promise 21", "BAD: another what.");
        PlaceRectangles none = new PlaceRectangles();
        PlaceRectangles proved = Given.bin(1, 1, 1, Given.of(2, 2, 2));
        for (int what : Given.wild(-1, 4)) {
            s.due("without a proof: proof(" + what + ")", none.proof(what), BAD);
            s.due("with one: proof(" + what + ")", proved.proof(what), BAD);
        }
    }
}
