/** Long mixed runs of calls: the class must answer each as the plain model of the document does. */
final class AgainstPlainModelTest {
    private static final int RUNS = 3000;
    private static final int PROOFS = 4000;
    /** The document promises 512 calls an object; one question here may be 57 of them. */
    private static final int CALLS = 512 - 57;

    private final Check check = new Check();
    private long seed = 20261116;
    private PlaceRectangles real;
    private PlainModel plain;
    private int longest;
    private int sort;
    private int[] lengths;
    private int count;

    public static void main(String[] args) {
        AgainstPlainModelTest test = new AgainstPlainModelTest();
        for (int run = 0; run < RUNS && test.check.wrong() < 20; run++) {
            test.oneRun(run);
        }
        int byOthers = 0;
        for (int run = 0; run < PROOFS && test.check.wrong() < 20; run++) {
            byOthers += test.oneProof(run) ? 1 : 0;
        }
        test.check.isTrue("many proofs are by functions beyond the first", byOthers > PROOFS / 20);
        test.check.end();
    }

    /** Boxes a little longer than a part of the bin, whose volume fits; whether a proof was found. */
    private boolean oneProof(int run) {
        real = new PlaceRectangles();
        plain = new PlainModel();
        int[] bin = {pick(1, 12), pick(1, 12), pick(1, 12)};
        real.bin(bin[0], bin[1], bin[2]);
        plain.bin(bin[0], bin[1], bin[2]);
        int boxes = pick(2, 8), bits = pick(0, 1) == 0 ? 1 : pick(1, 63);
        int left = bin[0] * bin[1] * bin[2];
        for (int box = 0; box < boxes; box++) {
            int a = partOf(bin[0]), b = partOf(bin[1]), c = partOf(bin[2]);
            if (a * b * c <= left) {
                left -= a * b * c;
                int number = real.box(a, b, c);
                plain.box(a, b, c);
                real.turns(number, bits);
                plain.turns(number, bits);
            }
        }
        for (int what = 0; what < 4; what++) {
            check.due("proof run " + run + ": proof(" + what + ")", real.proof(what), plain.proof(what));
        }
        return real.proof(0) + real.proof(1) + real.proof(2) > 0;
    }

    private int partOf(int length) {
        return Math.max(1, Math.min(length, length / pick(1, 4) + pick(0, 1)));
    }

    /** The same numbers every time, so that a failure can be seen again. */
    private int pick(int from, int to) {
        seed = seed * 6364136223846793005L + 1442695040888963407L;
        return from + (int) Long.remainderUnsigned(seed >>> 33, to - from + 1);
    }

    /** Mostly an ordinary number, now and then one beside the range or far away. */
    private int odd(int from, int to) {
        int kind = pick(0, 99);
        if (kind == 0) {
            return from - 1;
        }
        if (kind == 1) {
            return to + 1;
        }
        if (kind == 2) {
            return pick(0, 1) == 0 ? Integer.MIN_VALUE : Integer.MAX_VALUE;
        }
        return pick(from, to);
    }

    private void oneRun(int run) {
        real = new PlaceRectangles();
        plain = new PlainModel();
        longest = run % 10 == 0 ? 20 : pick(1, 9);
        sort = pick(0, 3);
        lengths = new int[] {10, 10, 10};
        count = 0;
        newBin("run " + run + ", first: ");
        int before = check.asked();
        for (int round = 0; check.asked() - before <= CALLS && round < CALLS; round++) {
            String at = "run " + run + ", round " + round + ": ";
            if (round < 9 || pick(0, 24) == 0) {
                change(at);
            } else {
                ask(at);
            }
        }
    }

    private void change(String at) {
        int kind = pick(0, 9);
        if (kind == 0) {
            newBin(at);
        } else if (kind <= 6) {
            int a = odd(1, 1), b = someSide(), c = someSide();
            a = a == 1 ? someSide() : a;
            int got = real.box(a, b, c);
            check.due(at + "box(" + a + ", " + b + ", " + c + ")", got, plain.box(a, b, c));
            count = got >= 0 ? got + 1 : count;
        } else if (kind <= 8) {
            int box = someBox(), bits = pick(0, 2) == 0 ? 63 : odd(1, 63);
            check.due(at + "turns(" + box + ", " + bits + ")", real.turns(box, bits), plain.turns(box, bits));
        } else if (pick(0, 2) == 0) {
            check.due(at + "clear()", real.clear(), plain.clear());
            count = 0;
        }
    }

    private void newBin(String at) {
        int x = odd(1 + longest / 2, longest), y = odd(1 + longest / 2, longest), z = odd(1, longest);
        int got = real.bin(x, y, z);
        check.due(at + "bin(" + x + ", " + y + ", " + z + ")", got, plain.bin(x, y, z));
        lengths = got == 0 ? new int[] {x, y, z} : lengths;
    }

    /** Small boxes have plans, those of about a half have proofs by functions beyond the first. */
    private int someSide() {
        int half = lengths[pick(0, 2)] / 2;
        if (sort == 0) {
            return pick(1, Math.max(1, half));
        }
        if (sort == 1) {
            return pick(Math.max(1, half), half + 1);
        }
        return sort == 2 && pick(0, 4) > 0 ? pick(1, 2) : pick(1, longest);
    }

    private int someBox() {
        return odd(0, Math.max(0, count - 1));
    }

    private void ask(String at) {
        int kind = pick(0, 29);
        if (kind <= 3) {
            int work = pick(0, 2) == 0 ? odd(1, 20000) : pick(1, 40);
            check.due(at + "run(" + work + ")", real.run(work), plain.run(work));
            check.due(at + "told(0, 0)", real.told(0, 0), plain.told(0, 0));
        } else if (kind <= 6) {
            int what = odd(0, 5), k = someBox();
            check.due(at + "told(" + what + ", " + k + ")", real.told(what, k), plain.told(what, k));
        } else if (kind <= 9) {
            check.due(at + "plan()", real.plan(), plain.plan());
            allPlaces(at);
        } else if (kind <= 14) {
            askPlace(at, pick(0, 3) > 0);
        } else if (kind == 15) {
            int box = someBox();
            check.due(at + "lift(" + box + ")", real.lift(box), plain.lift(box));
        } else if (kind == 16) {
            int box = someBox(), n = pick(0, 3) == 0 ? 0 : odd(0, 1000);
            check.due(at + "weight(" + box + ", " + n + ")", real.weight(box, n), plain.weight(box, n));
        } else if (kind <= 20) {
            askLaid(at);
        } else if (kind <= 24) {
            askTree(at);
        } else {
            askDuals(at);
        }
    }

    private void allPlaces(String at) {
        for (int box = 0; box < count; box++) {
            for (int what = 0; what < 7; what++) {
                check.due(at + "place(" + box + ", " + what + ")",
                        real.place(box, what), plain.place(box, what));
            }
        }
    }

    private void askPlace(String at, boolean lay) {
        int box = someBox(), turn = pick(0, 2) > 0 ? 0 : odd(0, 5);
        int x = odd(0, pick(0, lengths[0] - 1));
        int y = odd(0, pick(0, lengths[1] - 1));
        int z = odd(0, pick(0, lengths[2] - 1));
        String words = "(" + box + ", " + turn + ", " + x + ", " + y + ", " + z + ")";
        if (lay) {
            check.due(at + "lay" + words, real.lay(box, turn, x, y, z), plain.lay(box, turn, x, y, z));
        } else {
            check.due(at + "none" + words, real.none(box, turn, x, y, z), plain.none(box, turn, x, y, z));
        }
    }

    private void askLaid(String at) {
        int a = someBox(), b = someBox(), axis = odd(0, 2), part = odd(0, 1), what = odd(0, 6);
        check.due(at + "overlaps()", real.overlaps(), plain.overlaps());
        check.due(at + "relative(" + a + ", " + b + ")", real.relative(a, b), plain.relative(a, b));
        check.due(at + "support(" + a + ")", real.support(a), plain.support(a));
        check.due(at + "centre(" + axis + ", " + part + ")", real.centre(axis, part), plain.centre(axis, part));
        check.due(at + "place(" + a + ", " + what + ")", real.place(a, what), plain.place(a, what));
    }

    private void askTree(String at) {
        check.due(at + "tree()", real.tree(), plain.tree());
        for (int k = 0; k < 15; k++) {
            int what = odd(0, 3);
            check.due(at + "node(" + k + ", " + what + ")", real.node(k, what), plain.node(k, what));
        }
        int k = odd(0, 14), what = odd(0, 3);
        check.due(at + "node(" + k + ", " + what + ")", real.node(k, what), plain.node(k, what));
    }

    private void askDuals(String at) {
        int axis = odd(0, 2);
        int length = axis >= 0 && axis <= 2 ? lengths[axis] : 10;
        int n = odd(0, length / 2 * 2), x = odd(0, length);
        check.due(at + "dual(" + axis + ", " + n + ", " + x + ")", real.dual(axis, n, x), plain.dual(axis, n, x));
        int n0 = odd(0, lengths[0] / 2 * 2), n1 = odd(0, lengths[1] / 2 * 2), n2 = odd(0, lengths[2] / 2 * 2);
        int part = odd(0, 1);
        check.due(at + "need(" + n0 + ", " + n1 + ", " + n2 + ", " + part + ")",
                real.need(n0, n1, n2, part), plain.need(n0, n1, n2, part));
        if (longest < 20 || pick(0, 9) == 0) {
            int what = odd(0, 3);
            check.due(at + "proof(" + what + ")", real.proof(what), plain.proof(what));
        }
    }
}
