/** The words about the bin and the boxes, and promises 1 to 6. */
final class BoxSentences {
    private static final int BAD = Given.BAD, STATE = Given.STATE, FULL = Given.FULL, NONE = Given.NONE;
    private static final int LEAST = Given.LEAST, MOST = Given.MOST;
    /** Too small and too large as a side or a length. */
    private static final int[] NO_LENGTHS = Given.wild(0, 21);

    private BoxSentences() {
    }

    static void all(Sentences s) {
        calls(s);
        axes(s);
        lengths(s);
        sides(s);
        weights(s);
        turns(s);
        extents(s);
        places(s);
        overlap(s);
        promise1(s);
        promise2(s);
        promise2Bad(s);
        promise3(s);
        promise3Bad(s);
        promise3Full(s);
        promise4(s);
        promise4Bad(s);
        promise5(s);
        promise5Bad(s);
        promise6(s);
    }

    private static void calls(Sentences s) {
        s.sentence("What it is", "An object is used for at most 512 calls after it has been made");
        PlaceRectangles x = Given.bin(3, 1, 1, Given.of(2, 1, 1), Given.of(1, 1, 1));
        x.turns(1, 63);
        // Four calls until here; of the 508 that follow each is good to the last.
        for (int call = 5; call <= 507; call += 3) {
            s.due("call " + call + ": lift(0)", x.lift(0), call == 5 ? STATE : 0);
            s.due("call " + (call + 1) + ": lay(0, 0, 1, 0, 0)", x.lay(0, 0, 1, 0, 0), 0);
            s.due("call " + (call + 2) + ": run(1)", x.run(1), call < 11 ? 0 : 1);
        }
        s.due("call 509: told(0, 0)", x.told(0, 0), 3);
        s.due("call 510: plan()", x.plan(), 2);
        s.due("call 511: tree()", x.tree(), 3);
        s.due("call 512: node(2, 1)", x.node(2, 1), 1);
    }

    private static void axes(Sentences s) {
        s.onlySaid("Terms", "Numbers are whole.");
        s.sentence("Terms", "AXES are 0, 1, 2 (2: upwards).");
        PlaceRectangles x = Given.bin(4, 4, 4, Given.of(2, 2, 2), Given.of(2, 2, 2));
        for (int axis = 0; axis <= 2; axis++) {
            s.due("dual(" + axis + ", 0, 4)", x.dual(axis, 0, 4), 4);
            s.due("centre(" + axis + ", 0)", x.centre(axis, 0), 0);
        }
        for (int axis : Given.wild(-1, 3)) {
            s.due("dual(" + axis + ", 0, 0)", x.dual(axis, 0, 0), BAD);
            s.due("centre(" + axis + ", 0)", x.centre(axis, 0), BAD);
        }
        x.lay(0, 0, 0, 0, 1);
        x.lay(1, 0, 2, 0, 1);
        s.due("behind it on axis 0 it is not held", x.support(1), 0);
        x.lay(1, 0, 0, 2, 1);
        s.due("behind it on axis 1 it is not held", x.support(1), 0);
        x.lay(0, 0, 0, 0, 0);
        x.lay(1, 0, 0, 0, 2);
        s.due("behind it on axis 2 it is held", x.support(1), 4);
    }

    private static void lengthsAre(Sentences s, PlaceRectangles x, int a, int b, int c) {
        s.due("length on axis 0", Given.length(x, 0), a);
        s.due("length on axis 1", Given.length(x, 1), b);
        s.due("length on axis 2", Given.length(x, 2), c);
    }

    private static void lengths(Sentences s) {
        s.sentence("Terms", "THE BIN has a length on each axis (1 .. 20; 10, 10, 10 at first).");
        PlaceRectangles x = new PlaceRectangles();
        lengthsAre(s, x, 10, 10, 10);
        int[][] good = {{1, 20, 7}, {20, 7, 1}, {7, 1, 20}, {1, 1, 1}, {20, 20, 20}};
        for (int[] bin : good) {
            PlaceRectangles y = new PlaceRectangles();
            s.due("bin(" + bin[0] + ", " + bin[1] + ", " + bin[2] + ")", y.bin(bin[0], bin[1], bin[2]), 0);
            lengthsAre(s, y, bin[0], bin[1], bin[2]);
        }
        for (int n : Given.of(0, 21)) {
            s.due("bin(" + n + ", 1, 1)", x.bin(n, 1, 1), BAD);
            s.due("bin(1, " + n + ", 1)", x.bin(1, n, 1), BAD);
            s.due("bin(1, 1, " + n + ")", x.bin(1, 1, n), BAD);
        }
        lengthsAre(s, x, 10, 10, 10);
    }

    private static void sides(Sentences s) {
        s.sentence("Terms", "BOXES 0 .. 7 have three sides (1 .. 20)");
        int[][] good = {{1, 1, 1}, {20, 20, 20}, {1, 20, 20}, {20, 1, 20}, {20, 20, 1}, {1, 1, 20}, {1, 20, 1},
                {20, 1, 1}};
        PlaceRectangles x = Given.bin(20, 20, 20);
        for (int box = 0; box <= 7; box++) {
            s.due("box " + box, x.box(good[box][0], good[box][1], good[box][2]), box);
        }
        for (int box = 0; box <= 7; box++) {
            x.lay(box, 0, 0, 0, 0);
            for (int side = 0; side < 3; side++) {
                s.due("side " + side + " of box " + box, x.place(box, 4 + side), good[box][side]);
            }
        }
        s.due("there is no box 8", x.place(8, 0), BAD);
        s.due("there is no box -1", x.place(-1, 0), BAD);
        PlaceRectangles y = new PlaceRectangles();
        for (int n : Given.of(0, 21)) {
            s.due("box(" + n + ", 1, 1)", y.box(n, 1, 1), BAD);
            s.due("box(1, " + n + ", 1)", y.box(1, n, 1), BAD);
            s.due("box(1, 1, " + n + ")", y.box(1, 1, n), BAD);
        }
        s.due("none of them is a box", y.clear(), 0);
    }

    private static void weights(Sentences s) {
        s.sentence("Terms", "a weight (0 .. 1000; 1 at first)");
        PlaceRectangles x = Given.bin(10, 10, 10, Given.times(8, 1, 1, 1));
        for (int box = 0; box < 8; box++) {
            s.due("at first, box " + box, x.weight(box, 0), 1);
            s.due("the least, box " + box, x.weight(box, 1000), 0);
            s.due("the greatest, box " + box, x.weight(box, 1), 1000);
            s.due("too small, box " + box, x.weight(box, -1), BAD);
            s.due("too large, box " + box, x.weight(box, 1001), BAD);
            x.weight(box, 9);
        }
        x.clear();
        x.box(1, 1, 1);
        s.due("at first, also after a heavier one with its number", x.weight(0, 5), 1);
    }

    private static void turns(Sentences s) {
        s.sentence("Terms", "and TURNS (bits 1 .. 63; 1 at first)");
        PlaceRectangles x = Given.bin(10, 10, 10, Given.times(8, 1, 2, 3));
        for (int box = 0; box < 8; box++) {
            s.due("turn 0 at first, box " + box, x.lay(box, 0, 0, 0, box), 0);
            s.due("no other turn at first, box " + box, x.lay(box, 1, 0, 0, 0), BAD);
            x.lift(box);
        }
        for (int bits = 1; bits <= 63; bits++) {
            s.due("turns(7, " + bits + ")", x.turns(7, bits), Math.max(1, bits - 1));
            for (int turn = 0; turn < 6; turn++) {
                boolean has = (bits / (1 << turn)) % 2 == 1;
                s.due("bits " + bits + ", turn " + turn, x.none(7, turn, 0, 0, 0), has ? 0 : BAD);
            }
        }
        s.due("too small", x.turns(7, 0), BAD);
        s.due("too large", x.turns(7, 64), BAD);
        PlaceRectangles y = Given.bin(10, 10, 10, Given.of(1, 2, 3));
        s.due("at first", y.turns(0, 63), 1);
        y.clear();
        y.box(1, 2, 3);
        s.due("at first, also after one with its number", y.turns(0, 63), 1);
    }

    private static void extents(Sentences s) {
        s.sentence("Terms", "with turn t its EXTENTS on the axes are, of sides a, b, c: "
                + "0 a b c, 1 a c b, 2 b a c, 3 b c a, 4 c a b, 5 c b a.");
        int a = 3, b = 5, c = 7;
        int[][] due = {{a, b, c}, {a, c, b}, {b, a, c}, {b, c, a}, {c, a, b}, {c, b, a}};
        PlaceRectangles x = Given.bin(7, 7, 7, Given.of(a, b, c));
        x.turns(0, 63);
        for (int turn = 0; turn < 6; turn++) {
            x.lay(0, turn, 0, 0, 0);
            for (int axis = 0; axis < 3; axis++) {
                s.due("turn " + turn + ", axis " + axis, x.place(0, 4 + axis), due[turn][axis]);
            }
            PlaceRectangles y = Given.bin(due[turn][0], due[turn][1], due[turn][2], Given.of(a, b, c));
            y.turns(0, 63);
            s.due("a bin just so large has one way", y.told(2, 0), 1);
            y.run(1);
            y.plan();
            s.due("and it is by this turn", y.place(0, 3), turn);
        }
        s.due("there is no turn 6", x.lay(0, 6, 0, 0, 0), BAD);
        s.due("there is no turn -1", x.lay(0, -1, 0, 0, 0), BAD);
    }

    /** Coordinates from below the bin to beyond it, on one axis at a time. */
    private static void lastPlaces(Sentences s, PlaceRectangles x, int turn, int[] last) {
        for (int n = -2; n <= 8; n++) {
            s.due("turn " + turn + ", x = " + n, x.lay(0, turn, n, 0, 0), n >= 0 && n <= last[0] ? 0 : BAD);
            s.due("turn " + turn + ", y = " + n, x.lay(0, turn, 0, n, 0), n >= 0 && n <= last[1] ? 0 : BAD);
            s.due("turn " + turn + ", z = " + n, x.lay(0, turn, 0, 0, n), n >= 0 && n <= last[2] ? 0 : BAD);
        }
    }

    private static void places(Sentences s) {
        s.sentence("Terms", "A PLACE is a turn that the box has and a coordinate on each axis, so that it lies in"
                + " the bin: each is 0 or more, and with the extent not above the bin's length.");
        PlaceRectangles x = Given.bin(5, 6, 7, Given.of(2, 3, 4));
        x.turns(0, 33);
        lastPlaces(s, x, 0, Given.of(3, 3, 3));
        lastPlaces(s, x, 5, Given.of(1, 3, 5));
        s.due("the first place", x.lay(0, 0, 0, 0, 0), 0);
        s.due("the last place", x.lay(0, 0, 3, 3, 3), 0);
        for (int turn : Given.of(1, 2, 3, 4, 6)) {
            s.due("a turn that it has not, " + turn, x.lay(0, turn, 0, 0, 0), BAD);
        }
        for (int n : Given.of(LEAST, LEAST + 1, MOST - 4, MOST - 3, MOST - 2, MOST - 1, MOST)) {
            s.due("a sum that wraps around, x = " + n, x.lay(0, 0, n, 0, 0), BAD);
            s.due("a sum that wraps around, y = " + n, x.lay(0, 0, 0, n, 0), BAD);
            s.due("a sum that wraps around, z = " + n, x.lay(0, 0, 0, 0, n), BAD);
        }
        PlaceRectangles y = Given.bin(2, 3, 4, Given.of(2, 3, 4), Given.of(3, 3, 4), Given.of(2, 4, 4),
                Given.of(2, 3, 5));
        s.due("as large as the bin", y.lay(0, 0, 0, 0, 0), 0);
        for (int box = 1; box <= 3; box++) {
            s.due("one longer than the bin on axis " + (box - 1), y.lay(box, 0, 0, 0, 0), BAD);
        }
        s.due("one longer, and one ahead of the bin", y.lay(1, 0, -1, 0, 0), BAD);
    }

    /** Whether two spans of a length from a place have a cell in common, cell by cell. */
    private static boolean meet(int from, int length, int otherFrom, int otherLength) {
        for (int cell = from; cell < from + length; cell++) {
            for (int other = otherFrom; other < otherFrom + otherLength; other++) {
                if (cell == other) {
                    return true;
                }
            }
        }
        return false;
    }

    private static void overlap(Sentences s) {
        s.sentence("Terms",
                "Two boxes with places OVERLAP if on each axis each of them begins before the other one ends.");
        PlaceRectangles x = Given.bin(7, 7, 7, Given.of(2, 1, 3), Given.of(1, 2, 2));
        x.lay(0, 0, 2, 3, 2);
        for (int a = 0; a <= 6; a++) {
            for (int b = 0; b <= 5; b++) {
                for (int c = 0; c <= 5; c++) {
                    boolean due = meet(2, 2, a, 1) && meet(3, 1, b, 2) && meet(2, 3, c, 2);
                    s.due("beside a box: lay(1, 0, " + a + ", " + b + ", " + c + ")",
                            x.lay(1, 0, a, b, c), due ? 1 : 0);
                }
            }
        }
        PlaceRectangles y = Given.bin(10, 10, 10, Given.of(9, 9, 9), Given.of(1, 1, 1));
        y.lay(0, 0, 0, 0, 0);
        s.due("one within the other", y.lay(1, 0, 4, 4, 4), 1);
        s.due("within its last corner", y.lay(1, 0, 8, 8, 8), 1);
        s.due("just beyond it", y.lay(1, 0, 9, 9, 9), 0);
        for (int axis = 0; axis < 3; axis++) {
            int at = 9;
            s.due("just beyond it on axis " + axis,
                    y.lay(1, 0, axis == 0 ? at : 8, axis == 1 ? at : 8, axis == 2 ? at : 8), 0);
        }
    }

    private static void promise1(Sentences s) {
        s.sentence("Promise 1", "The first bin, no boxes.");
        PlaceRectangles x = new PlaceRectangles();
        lengthsAre(s, x, 10, 10, 10);
        s.due("told(0, 0)", x.told(0, 0), 0);
        s.due("told(1, 0): there is no box 0", x.told(1, 0), BAD);
        s.due("place(0, 0)", x.place(0, 0), BAD);
        s.due("weight(0, 1)", x.weight(0, 1), BAD);
        s.due("turns(0, 1)", x.turns(0, 1), BAD);
        s.due("lift(0)", x.lift(0), BAD);
        s.due("support(0)", x.support(0), BAD);
        s.due("relative(0, 1)", x.relative(0, 1), BAD);
        s.due("lay(0, 0, 0, 0, 0)", x.lay(0, 0, 0, 0, 0), BAD);
        s.due("none(0, 0, 0, 0, 0)", x.none(0, 0, 0, 0, 0), BAD);
        s.due("overlaps()", x.overlaps(), 0);
        s.due("tree()", x.tree(), 0);
        s.due("node(0, 0)", x.node(0, 0), NONE);
        s.due("centre(0, 0)", x.centre(0, 0), 0);
        s.due("centre(0, 1)", x.centre(0, 1), 0);
        s.due("need(0, 0, 0, 0)", x.need(0, 0, 0, 0), 0);
        s.due("need(0, 0, 0, 1)", x.need(0, 0, 0, 1), 1000);
        s.due("proof(0)", x.proof(0), NONE);
        s.due("proof(3)", x.proof(3), NONE);
        s.due("clear()", x.clear(), 0);
        s.due("the first box is 0", x.box(10, 10, 10), 0);
        PlaceRectangles other = new PlaceRectangles();
        s.due("another new object has none", other.clear(), 0);
        s.due("a new object's run(1)", new PlaceRectangles().run(1), 1);
        s.due("a new object's plan()", new PlaceRectangles().plan(), 0);
    }

    /** Two boxes, planned and laid by 3 WORK. */
    private static PlaceRectangles planned() {
        PlaceRectangles x = Given.bin(4, 4, 4, Given.of(2, 2, 2), Given.of(1, 1, 1));
        x.run(20000);
        x.plan();
        return x;
    }

    private static void isAnew(Sentences s, String why, PlaceRectangles x) {
        s.due(why + ": no WORK is done", x.told(0, 0), 0);
        s.due(why + ": THE PLAN is not there", x.plan(), STATE);
        s.due(why + ": box 0 is not laid", x.place(0, 0), NONE);
    }

    private static void isKept(Sentences s, String why, PlaceRectangles x) {
        s.due(why + ": WORK", x.told(0, 0), 3);
        s.due(why + ": box 1's place", x.place(1, 0), 2);
        lengthsAre(s, x, 4, 4, 4);
        s.due(why + ": plan()", x.plan(), 2);
    }

    private static void promise2(Sentences s) {
        s.sentence("Promise 2", "The bin has other lengths (also the same): 0.");
        PlaceRectangles x = planned();
        isKept(s, "before", x);
        s.due("the same: bin(4, 4, 4)", x.bin(4, 4, 4), 0);
        isAnew(s, "the same", x);
        lengthsAre(s, x, 4, 4, 4);
        x.run(20000);
        x.plan();
        s.due("other ones: bin(5, 4, 3)", x.bin(5, 4, 3), 0);
        isAnew(s, "other ones", x);
        lengthsAre(s, x, 5, 4, 3);
        s.due("the boxes stay", x.told(1, 1), 1);
        s.due("shorter than a box: bin(1, 1, 1)", x.bin(1, 1, 1), 0);
        s.due("that box has no way", x.told(2, 0), 0);
        s.due("the boxes stay", x.clear(), 2);
    }

    private static void promise2Bad(Sentences s) {
        s.sentence("Promise 2", "BAD.");
        PlaceRectangles x = planned();
        for (int n : NO_LENGTHS) {
            s.due("bin(" + n + ", 4, 4)", x.bin(n, 4, 4), BAD);
            s.due("bin(4, " + n + ", 4)", x.bin(4, n, 4), BAD);
            s.due("bin(4, 4, " + n + ")", x.bin(4, 4, n), BAD);
            s.due("bin(" + n + ", " + n + ", " + n + ")", x.bin(n, n, n), BAD);
        }
        isKept(s, "refused", x);
    }

    private static void promise3(Sentences s) {
        s.sentence("Promise 3", "A box: its number.");
        PlaceRectangles x = planned();
        s.due("the third", x.box(20, 1, 1), 2);
        isAnew(s, "a box more", x);
        for (int box = 3; box <= 7; box++) {
            s.due("box(1, 1, 1)", x.box(1, 1, 1), box);
        }
        x.clear();
        for (int box = 0; box <= 7; box++) {
            s.due("after clear(), box(20, 20, 20)", x.box(20, 20, 20), box);
        }
    }

    private static void promise3Bad(Sentences s) {
        s.sentence("Promise 3", "BAD: a side is not 1 .. 20.");
        PlaceRectangles x = planned();
        for (int n : NO_LENGTHS) {
            s.due("box(" + n + ", 1, 1)", x.box(n, 1, 1), BAD);
            s.due("box(1, " + n + ", 1)", x.box(1, n, 1), BAD);
            s.due("box(1, 1, " + n + ")", x.box(1, 1, n), BAD);
            s.due("box(" + n + ", " + n + ", " + n + ")", x.box(n, n, n), BAD);
        }
        isKept(s, "refused", x);
        s.due("box(20, 20, 20)", x.box(20, 20, 20), 2);
        s.due("box(1, 1, 1)", x.box(1, 1, 1), 3);
    }

    private static void promise3Full(Sentences s) {
        s.sentence("Promise 3", "FULL.");
        PlaceRectangles x = Given.bin(10, 10, 10, Given.times(7, 1, 1, 1));
        s.due("the eighth is a box yet", x.box(1, 1, 1), 7);
        s.due("the ninth", x.box(1, 1, 1), FULL);
        s.due("again", x.box(20, 20, 20), FULL);
        x.run(20000);
        s.due("eight are in THE PLAN", x.plan(), 8);
        s.due("the ninth", x.box(1, 1, 1), FULL);
        s.due("all eight are laid yet", x.tree(), 15);
        s.due("THE PLAN is there yet", x.plan(), 8);
        s.due("clear()", x.clear(), 8);
        s.due("then there is room", x.box(1, 1, 1), 0);
    }

    private static void promise4(Sentences s) {
        s.sentence("Promise 4", "Turns of a box: what they were (also the same ones: the search begins anew).");
        PlaceRectangles x = planned();
        s.due("the same ones", x.turns(0, 1), 1);
        isAnew(s, "the same ones", x);
        x.run(20000);
        x.plan();
        s.due("other ones", x.turns(1, 63), 1);
        isAnew(s, "other ones", x);
        s.due("the last one alone", x.turns(1, 32), 63);
        s.due("all but the last", x.turns(1, 31), 32);
        s.due("the other box has its own", x.turns(0, 2), 1);
        s.due("so has this one", x.turns(1, 1), 31);
        s.due("and the first one", x.turns(0, 1), 2);
    }

    private static void promise4Bad(Sentences s) {
        s.sentence("Promise 4", "BAD: no such box; bits are not 1 .. 63.");
        PlaceRectangles x = planned();
        for (int box : Given.wild(-1, 2)) {
            s.due("turns(" + box + ", 1)", x.turns(box, 1), BAD);
            s.due("turns(" + box + ", 0)", x.turns(box, 0), BAD);
        }
        for (int bits : Given.of(0, 64, 65, 127, -1, -63, -64, 1 << 31 | 1, LEAST, MOST)) {
            s.due("turns(0, " + bits + ")", x.turns(0, bits), BAD);
            s.due("turns(1, " + bits + ")", x.turns(1, bits), BAD);
        }
        isKept(s, "refused", x);
        s.due("turns(0, 63)", x.turns(0, 63), 1);
        s.due("turns(1, 1)", x.turns(1, 1), 1);
        x.clear();
        s.due("without boxes", x.turns(0, 1), BAD);
    }

    private static void promise5(Sentences s) {
        s.sentence("Promise 5", "A weight: what it was.");
        PlaceRectangles x = planned();
        s.due("weight(1, 1000)", x.weight(1, 1000), 1);
        s.due("weight(1, 0)", x.weight(1, 0), 1000);
        s.due("the same: weight(1, 0)", x.weight(1, 0), 0);
        s.due("the other box has its own", x.weight(0, 999), 1);
        s.due("weight(1, 7)", x.weight(1, 7), 0);
        isKept(s, "no search begins anew", x);
        x.bin(5, 5, 5);
        s.due("it stays with another bin", x.weight(0, 999), 999);
        x.box(1, 1, 1);
        s.due("and with another box", x.weight(1, 7), 7);
        x.turns(0, 63);
        s.due("and with other turns", x.weight(0, 999), 999);
    }

    private static void promise5Bad(Sentences s) {
        s.sentence("Promise 5", "BAD: no such box, weight.");
        PlaceRectangles x = planned();
        for (int box : Given.wild(-1, 2)) {
            s.due("weight(" + box + ", 5)", x.weight(box, 5), BAD);
        }
        for (int n : Given.of(-1, 1001, -1000, 65536, LEAST, LEAST + 1, MOST - 1, MOST)) {
            s.due("weight(0, " + n + ")", x.weight(0, n), BAD);
            s.due("weight(1, " + n + ")", x.weight(1, n), BAD);
        }
        isKept(s, "refused", x);
        s.due("box 0's is as it was", x.weight(0, 1), 1);
        s.due("box 1's is as it was", x.weight(1, 1), 1);
        x.clear();
        s.due("without boxes", x.weight(0, 5), BAD);
    }

    private static void promise6(Sentences s) {
        s.sentence("Promise 6", "No boxes (the bin stays): how many there were.");
        for (int count = 0; count <= 8; count++) {
            PlaceRectangles x = Given.bin(3, 20, 1, Given.times(count, 1, 1, 1));
            for (int box = 0; box < count; box++) {
                x.turns(box, 63);
                x.weight(box, 9);
            }
            for (int box = 0; box < count; box++) {
                x.lay(box, 0, 0, 0, 0);
            }
            s.due("of " + count, x.clear(), count);
            s.due("of none", x.clear(), 0);
            lengthsAre(s, x, 3, 20, 1);
            s.due("none overlap", x.overlaps(), 0);
            s.due("no weight", x.centre(0, 1), 0);
            s.due("there is no box 0", x.place(0, 0), BAD);
            s.due("THE PLAN of none", x.plan(), 0);
            s.due("the first number again", x.box(1, 1, 1), 0);
            s.due("it is not laid", x.place(0, 0), NONE);
            s.due("its weight is the first one", x.weight(0, 1), 1);
            s.due("its turns are the first ones", x.turns(0, 1), 1);
        }
    }
}
