/** Promises 7 to 9: run, told, plan. */
final class SearchTest {
    private static final int BAD = PlaceRectangles.BAD, STATE = PlaceRectangles.STATE;
    private static final int NONE = PlaceRectangles.NONE;
    private static final Check CHECK = new Check();

    public static void main(String[] args) {
        promise7StepByStep();
        promise7Closed();
        promise7NoWays();
        promise7GoesBack();
        promise7InPieces();
        promise7LongSearch();
        promise7Refusals();
        promise8Order();
        promise8Coordinates();
        promise8Ways();
        promise8Refusals();
        promise9();
        promise9TakesTheFirstWays();
        CHECK.end();
    }

    private static void due(String call, long got, long want) {
        CHECK.due(call, got, want);
    }

    private static PlaceRectangles with(int[] bin, int[]... boxes) {
        PlaceRectangles x = new PlaceRectangles();
        x.bin(bin[0], bin[1], bin[2]);
        for (int[] box : boxes) {
            x.box(box[0], box[1], box[2]);
        }
        return x;
    }

    private static int[] row(int... numbers) {
        return numbers;
    }

    private static void promise7StepByStep() {
        PlaceRectangles x = with(row(2, 1, 1), row(1, 1, 1), row(1, 1, 1));
        due("7 first box at 0", x.run(1), 0);
        due("7 work", x.told(0, 0), 1);
        due("7 second box at 0", x.run(1), 0);
        due("7 work", x.told(0, 0), 2);
        due("7 second box at 1", x.run(1), 1);
        due("7 work", x.told(0, 0), 3);
        due("7 from before", x.run(20000), 1);
        due("7 nothing is done then", x.told(0, 0), 3);
    }

    private static void promise7Closed() {
        PlaceRectangles x = with(row(1, 1, 1), row(1, 1, 1), row(1, 1, 1));
        due("7 not closed yet", x.run(1), 0);
        due("7 closed with the last way, no more is needed", x.run(1), 2);
        due("7 work", x.told(0, 0), 2);
        due("7 closed from before", x.run(5), 2);
        due("7 nothing is done then", x.told(0, 0), 2);
        x.clear();
        due("7 without boxes", x.run(1), 1);
        due("7 without work", x.told(0, 0), 0);
    }

    private static void promise7NoWays() {
        PlaceRectangles x = with(row(1, 1, 1), row(2, 1, 1));
        due("7 the first box has no way", x.run(1), 2);
        due("7 no work", x.told(0, 0), 0);
        PlaceRectangles y = with(row(3, 1, 1), row(3, 1, 1), row(1, 2, 1));
        due("7 the second box has no way", y.run(1), 2);
        due("7 one way was looked at", y.told(0, 0), 1);
        due("7 ways of the first", y.told(2, 0), 1);
        due("7 ways of the second", y.told(2, 1), 0);
    }

    private static void promise7GoesBack() {
        // Box 0 at 0. Box 1 at 0 and 1, blocked, then 2. Box 2 at 0 and 2, blocked, then 4.
        PlaceRectangles x = with(row(5, 1, 1), row(2, 1, 1), row(2, 1, 1), row(1, 1, 1));
        due("7 run", x.run(1), 0);
        due("7 run", x.run(3), 0);
        due("7 blocked ways are work", x.told(0, 0), 4);
        due("7 run", x.run(2), 0);
        due("7 run", x.run(1), 1);
        due("7 work", x.told(0, 0), 7);
        // Box 1 at 0: box 2 at 0, 1, 2, the last one free: box 0 at 0, 2: 6. Box 1 at 1: box 2 at
        // 0, 1, 2: 4. Box 1 at 2: box 2 at 0, free: box 0 at 0, 2; box 2 at 1, 2: 6.
        PlaceRectangles y = with(row(4, 1, 1), row(1, 1, 1), row(2, 1, 1), row(2, 1, 1));
        due("7 closed: five do not go into four", y.run(20000), 2);
        due("7 work with going back", y.told(0, 0), 6 + 4 + 6);
        // Flat boxes of 2 * 3 leave room for the other one only if one of them stands upright.
        PlaceRectangles z = with(row(3, 4, 1), row(2, 3, 1), row(2, 3, 1));
        due("7 closed without turns", z.run(20000), 2);
        z.turns(0, 5);
        z.turns(1, 5);
        due("7 the first one goes on to its second turn", z.run(20000), 1);
        z.plan();
        due("7 its turn", z.place(0, 3), 2);
        due("7 its place", z.place(0, 1), 0);
        due("7 the other one's turn", z.place(1, 3), 2);
        due("7 the other one's place", z.place(1, 1), 2);
    }

    private static void promise7InPieces() {
        PlaceRectangles whole = closing();
        due("7 in one", whole.run(20000), 2);
        int work = whole.told(0, 0);
        due("7 its work", work, 804);
        for (int piece : new int[] {4, 7, 29, 101, 803}) {
            PlaceRectangles x = closing();
            for (int done = piece; done < work; done += piece) {
                due("7 not yet", x.run(piece), 0);
                due("7 work in pieces of " + piece, x.told(0, 0), done);
            }
            due("7 at last", x.run(piece), 2);
            due("7 the same work", x.told(0, 0), work);
        }
    }

    private static PlaceRectangles closing() {
        PlaceRectangles x = with(row(5, 5, 1),
                row(2, 3, 1), row(2, 3, 1), row(2, 3, 1), row(3, 2, 1), row(1, 1, 1));
        x.turns(3, 5);
        return x;
    }

    private static void promise7LongSearch() {
        PlaceRectangles x = with(row(20, 20, 20), row(11, 11, 11), row(10, 10, 10), row(9, 9, 9),
                row(8, 8, 8), row(7, 7, 7), row(6, 6, 6), row(5, 5, 5), row(11, 11, 11));
        due("7 20000", x.run(20000), 0);
        due("7 40000", x.run(20000), 0);
        due("7 work", x.told(0, 0), 40000);
        due("7 closed at last", x.run(20000), 2);
        due("7 all work", x.told(0, 0), 46872);
        due("7 anew", x.bin(20, 20, 20), 0);
        due("7 no work", x.told(0, 0), 0);
        due("7 from the first way on", x.run(1), 0);
    }

    private static void promise7Refusals() {
        PlaceRectangles x = with(row(2, 1, 1), row(1, 1, 1), row(1, 1, 1));
        for (int work : new int[] {0, -1, 20001, Integer.MIN_VALUE, Integer.MAX_VALUE}) {
            due("7 run(" + work + ")", x.run(work), BAD);
        }
        due("7 refusals do no work", x.told(0, 0), 0);
        due("7 run(20000)", x.run(20000), 1);
        due("7 BAD also when the plan is there", x.run(0), BAD);
    }

    private static void promise8Order() {
        PlaceRectangles x = with(row(9, 9, 9), row(1, 1, 4), row(5, 5, 5), row(2, 2, 1), row(6, 6, 6), row(4, 1, 1));
        int[] order = {3, 1, 0, 2, 4};
        for (int k = 0; k < order.length; k++) {
            due("8 told(1, " + k + ")", x.told(1, k), order[k]);
        }
        x.box(20, 20, 20);
        due("8 the new one is first", x.told(1, 0), 5);
        due("8 then as before", x.told(1, 1), 3);
    }

    private static void promise8Coordinates() {
        PlaceRectangles x = with(row(10, 10, 10), row(1, 1, 1), row(2, 3, 4));
        x.turns(1, 3);
        due("8 axis 0: 0, 2", x.told(3, 0), 2);
        due("8 axis 1: 0, 3, 4", x.told(4, 0), 3);
        due("8 axis 2: 0, 3, 4", x.told(5, 0), 3);
        due("8 of the other: 0, 1", x.told(3, 1), 2);
        x.box(7, 6, 20);
        due("8 axis 0: 0, 2, 7, 9", x.told(3, 0), 4);
        due("8 axis 1: 0, 3, 4, 6, 9, 10", x.told(4, 0), 6);
        due("8 axis 2: 20 is above", x.told(5, 0), 3);
        x.bin(10, 9, 20);
        due("8 axis 1: 10 is above", x.told(4, 0), 5);
        due("8 axis 2: 0, 3, 4, 20", x.told(5, 0), 4);
        x.bin(1, 1, 1);
        due("8 0 alone", x.told(3, 0), 1);
        due("8 0, 1: also such as are in no way", x.told(3, 1), 2);
        due("8 a sum takes one extent a box", with(row(20, 20, 20), row(1, 1, 1), row(3, 1, 1)).told(3, 0), 2);
    }

    private static void promise8Ways() {
        PlaceRectangles x = with(row(10, 10, 10), row(1, 1, 1), row(2, 3, 4));
        x.turns(1, 3);
        due("8 2 * 3 * 3", x.told(2, 0), 18);
        due("8 two turns of 2 * 2 * 2", x.told(2, 1), 16);
        x.bin(10, 3, 10);
        due("8 the second turn is too long", x.told(2, 1), 4);
        due("8 axis 1: 3 is a coordinate without a place", x.told(4, 0), 2);
        due("8 2 * 1 * 3", x.told(2, 0), 6);
        PlaceRectangles y = with(row(2, 2, 2), row(1, 1, 2));
        y.turns(0, 63);
        due("8 three of six turns are others", y.told(2, 0), 3);
        y.bin(2, 2, 1);
        due("8 of these two lie in the bin", y.told(2, 0), 2);
        y.bin(1, 1, 1);
        due("8 no way", y.told(2, 0), 0);
    }

    private static void promise8Refusals() {
        PlaceRectangles x = with(row(10, 10, 10), row(1, 1, 1), row(2, 3, 4));
        for (int what = 1; what <= 5; what++) {
            due("8 k = 2", x.told(what, 2), BAD);
            due("8 k = -1", x.told(what, -1), BAD);
            due("8 k far away", x.told(what, Integer.MAX_VALUE), BAD);
        }
        for (int k : new int[] {-1, 8, Integer.MIN_VALUE, Integer.MAX_VALUE}) {
            due("8 any k", x.told(0, k), 0);
        }
        for (int what : new int[] {-1, 6, Integer.MIN_VALUE, Integer.MAX_VALUE}) {
            due("8 told(" + what + ", 0)", x.told(what, 0), BAD);
        }
    }

    private static void promise9() {
        PlaceRectangles x = with(row(2, 1, 1), row(1, 1, 1), row(1, 1, 1));
        due("9 not there yet", x.plan(), STATE);
        x.lay(1, 0, 0, 0, 0);
        x.run(2);
        due("9 not there yet", x.plan(), STATE);
        due("9 what is laid stays", x.place(1, 0), 0);
        x.run(1);
        due("9 nothing is laid by run", x.place(0, 0), NONE);
        due("9 plan", x.plan(), 2);
        due("9 box 0", x.place(0, 0), 0);
        due("9 box 1 was moved", x.place(1, 0), 1);
        x.lift(0);
        x.lay(1, 0, 0, 0, 0);
        due("9 again", x.plan(), 2);
        due("9 box 0 again", x.place(0, 0), 0);
        due("9 box 1 again", x.place(1, 0), 1);
        x.bin(1, 1, 1);
        x.run(20);
        due("9 closed", x.plan(), STATE);
    }

    /** By turns, then axis 2, then 1, then 0: each box goes as far to the front as it can. */
    private static void promise9TakesTheFirstWays() {
        PlaceRectangles x = with(row(2, 2, 2), row(1, 1, 1), row(1, 1, 1), row(1, 1, 1), row(1, 1, 1), row(1, 1, 1));
        x.run(20000);
        due("9 plan", x.plan(), 5);
        for (int box = 0; box < 5; box++) {
            due("9 axis 0 of " + box, x.place(box, 0), box & 1);
            due("9 axis 1 of " + box, x.place(box, 1), box >> 1 & 1);
            due("9 axis 2 of " + box, x.place(box, 2), box >> 2 & 1);
        }
        PlaceRectangles y = with(row(3, 2, 1), row(3, 1, 1), row(1, 3, 1));
        due("9 without its turn", y.run(20000), 2);
        y.turns(1, 5);
        due("9 with its turn", y.run(20000), 1);
        y.plan();
        due("9 turn", y.place(1, 3), 2);
        due("9 above the other one", y.place(1, 1), 1);
    }
}
