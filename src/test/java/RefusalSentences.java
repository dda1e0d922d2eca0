import java.util.ArrayList;
import java.util.List;
import java.util.function.Consumer;
import java.util.function.ToLongFunction;

/** What begins the search anew, and what refusals leave as it is: two objects are compared. */
final class RefusalSentences {
    private static final int BAD = Given.BAD, STATE = Given.STATE, FULL = Given.FULL, NONE = Given.NONE;

    /** A call, and what it answers. */
    private static final class Call {
        final String words;
        final ToLongFunction<PlaceRectangles> made;
        final long due;

        Call(String words, long due, ToLongFunction<PlaceRectangles> made) {
            this.words = words;
            this.due = due;
            this.made = made;
        }
    }

    private RefusalSentences() {
    }

    static void all(Sentences s) {
        anew(s);
        notAnew(s);
        nothingIsLaid(s);
        firstRefusal(s);
        changeNothing(s);
    }

    /** All that can be asked of an object of so many boxes, at last also by calls that change it. */
    private static List<Long> traits(PlaceRectangles x, int boxes) {
        List<Long> told = new ArrayList<>();
        places(told, x, boxes);
        for (int what = 0; what <= 5; what++) {
            for (int k = 0; k <= boxes; k++) {
                told.add((long) x.told(what, k));
            }
        }
        for (int axis = 0; axis < 3; axis++) {
            told.add((long) x.centre(axis, 0));
            told.add((long) x.centre(axis, 1));
            told.add((long) Given.length(x, axis));
        }
        told.add((long) x.overlaps());
        told.add((long) x.tree());
        for (int k = 0; k < 15; k++) {
            told.add((long) x.node(k, 1));
        }
        for (int what = 0; what <= 3; what++) {
            told.add((long) x.proof(what));
        }
        told.add(x.need(0, 0, 0, 0));
        told.add((long) x.run(1));
        told.add((long) x.told(0, 0));
        told.add((long) x.run(20000));
        told.add((long) x.told(0, 0));
        told.add((long) x.plan());
        places(told, x, boxes);
        for (int box = 0; box < boxes; box++) {
            told.add((long) x.weight(box, 500));
            told.add((long) x.turns(box, 63));
        }
        told.add((long) x.box(1, 1, 1));
        told.add((long) x.clear());
        return told;
    }

    private static void places(List<Long> told, PlaceRectangles x, int boxes) {
        for (int box = 0; box < boxes; box++) {
            for (int what = 0; what <= 3; what++) {
                told.add((long) x.place(box, what));
            }
        }
    }

    /** Four boxes that go into the bin of 4, 4, 2, after so much WORK; two of them are laid, apart. */
    private static PlaceRectangles begun(int work) {
        PlaceRectangles x = Given.bin(4, 4, 2, Given.of(2, 3, 1), Given.of(3, 2, 1), Given.of(1, 2, 2),
                Given.of(2, 2, 1));
        x.turns(1, 5);
        x.turns(2, 63);
        x.weight(3, 7);
        if (work > 0) {
            x.run(work);
        }
        x.lay(1, 2, 0, 0, 0);
        x.lay(3, 0, 2, 2, 1);
        return x;
    }

    private static void anew(Sentences s) {
        s.sentence("Terms", "What changes the bin, boxes, sides or turns, begins the search anew;");
        for (int work : Given.of(1, 5, 20000)) {
            same(s, "bin() after " + work, 4, x -> x.bin(4, 4, 2), begun(work), begun(0));
            same(s, "turns() after " + work, 4, x -> x.turns(2, 63), begun(work), begun(0));
            same(s, "box() after " + work, 5, x -> x.box(1, 1, 1), begun(work), begun(0));
            same(s, "clear() after " + work, 1, x -> {
                x.clear();
                x.box(1, 1, 1);
            }, begun(work), begun(0));
        }
        PlaceRectangles closed = Given.bin(1, 1, 1, Given.of(1, 1, 1), Given.of(1, 1, 1));
        s.due("CLOSED", closed.run(2), 2);
        closed.bin(2, 1, 1);
        s.due("in another bin no WORK is done", closed.told(0, 0), 0);
        s.due("in another bin the search goes through the ways again", closed.run(3), 1);
        closed.box(1, 1, 1);
        s.due("with another box it is there no more", closed.plan(), STATE);
        s.due("with another box it is CLOSED", closed.run(20000), 2);
        closed.clear();
        s.due("without boxes it is there", closed.plan(), 0);
    }

    /** After the change both answer all questions alike, whatever the first one did before. */
    private static void same(Sentences s, String what, int boxes, Consumer<PlaceRectangles> change,
            PlaceRectangles used, PlaceRectangles unused) {
        change.accept(used);
        change.accept(unused);
        s.due(what + ": no WORK is done", used.told(0, 0), 0);
        List<Long> got = traits(used, boxes);
        List<Long> due = traits(unused, boxes);
        s.isTrue(what + ": " + got + " instead of " + due, got.equals(due));
    }

    private static void notAnew(Sentences s) {
        s.sentence("Terms", "begins the search anew;");
        PlaceRectangles x = begun(5);
        x.weight(0, 1000);
        x.lay(0, 0, 0, 0, 0);
        x.lift(0);
        x.overlaps();
        x.tree();
        x.node(0, 0);
        x.proof(0);
        x.need(0, 0, 0, 0);
        x.none(0, 0, 0, 0, 0);
        x.run(1);
        s.due("none of these does: told(0, 0)", x.told(0, 0), 6);
        s.due("what is laid stays: place(3, 2)", x.place(3, 2), 1);
        int work = x.run(20000) == 1 ? x.told(0, 0) : -1;
        x.plan();
        x.weight(0, 1);
        s.due("plan() and weight() don't: told(0, 0)", x.told(0, 0), work);
        s.due("plan() and weight() don't: plan()", x.plan(), 4);
    }

    private static void nothingIsLaid(Sentences s) {
        s.sentence("Terms", "then nothing is laid.");
        List<Call> changes = new ArrayList<>();
        changes.add(new Call("bin(4, 4, 2)", 0, x -> x.bin(4, 4, 2)));
        changes.add(new Call("bin(20, 20, 20)", 0, x -> x.bin(20, 20, 20)));
        changes.add(new Call("box(1, 1, 1)", 4, x -> x.box(1, 1, 1)));
        changes.add(new Call("turns(0, 1)", 1, x -> x.turns(0, 1)));
        changes.add(new Call("turns(3, 63)", 1, x -> x.turns(3, 63)));
        for (Call change : changes) {
            PlaceRectangles x = begun(5);
            s.due(change.words, change.made.applyAsLong(x), change.due);
            for (int box = 0; box < 4; box++) {
                s.due(change.words + ": place(" + box + ", 0)", x.place(box, 0), NONE);
                s.due(change.words + ": support(" + box + ")", x.support(box), STATE);
                s.due(change.words + ": lift(" + box + ")", x.lift(box), STATE);
            }
            s.due(change.words + ": relative(1, 3)", x.relative(1, 3), STATE);
            s.due(change.words + ": overlaps()", x.overlaps(), 0);
            s.due(change.words + ": tree()", x.tree(), 0);
            s.due(change.words + ": centre(0, 1)", x.centre(0, 1), 0);
            s.due(change.words + ": lay(0, 0, 0, 0, 0)", x.lay(0, 0, 0, 0, 0), 0);
        }
        PlaceRectangles overlapping = begun(5);
        s.due("they overlap", overlapping.lay(0, 0, 0, 0, 0), 1);
        overlapping.turns(3, 1);
        s.due("then they don't", overlapping.overlaps(), 0);
        s.due("then there is no tree", overlapping.tree(), 0);
    }

    private static void firstRefusal(Sentences s) {
        s.sentence("Terms", "Of several refusals the first one here: BAD, STATE, FULL;");
        PlaceRectangles full = Given.bin(4, 4, 4, Given.times(8, 1, 1, 1));
        s.due("FULL alone", full.box(1, 1, 1), FULL);
        s.due("BAD ahead of FULL: box(0, 1, 1)", full.box(0, 1, 1), BAD);
        s.due("BAD ahead of FULL: box(1, 21, 1)", full.box(1, 21, 1), BAD);
        s.due("BAD ahead of FULL: box(1, 1, 21)", full.box(1, 1, 21), BAD);
        full.lay(0, 0, 0, 0, 0);
        s.due("STATE alone", full.relative(0, 1), STATE);
        s.due("BAD ahead of STATE: relative(1, 1)", full.relative(1, 1), BAD);
        s.due("BAD ahead of STATE: relative(1, 8)", full.relative(1, 8), BAD);
        s.due("BAD ahead of STATE: relative(-1, 1)", full.relative(-1, 1), BAD);
        full.lay(1, 0, 0, 0, 0);
        s.due("STATE alone", full.node(0, 0), STATE);
        s.due("BAD ahead of STATE: node(15, 0)", full.node(15, 0), BAD);
        s.due("BAD ahead of STATE: node(0, 4)", full.node(0, 4), BAD);
        s.due("BAD ahead of STATE: node(-1, -1)", full.node(-1, -1), BAD);
        s.due("STATE ahead of NONE: node(14, 0)", full.node(14, 0), STATE);
        s.due("BAD ahead of NONE: place(2, 7)", full.place(2, 7), BAD);
        s.due("BAD ahead of NONE: proof(4)", full.proof(4), BAD);
    }

    private static void changeNothing(Sentences s) {
        s.sentence("Terms", "they change nothing.");
        for (int kind = 0; kind < 6; kind++) {
            PlaceRectangles first = inState(kind);
            int boxes = kind == 0 ? 0 : kind == 4 ? 8 : kind == 5 ? 2 : 4;
            List<Long> due = traits(first, boxes);
            for (Call call : refusals(kind, boxes)) {
                PlaceRectangles x = inState(kind);
                String words = "state " + kind + ", " + call.words;
                s.due(words, call.made.applyAsLong(x), call.due);
                List<Long> got = traits(x, boxes);
                s.isTrue(words + " changed what is told: " + got + " instead of " + due, got.equals(due));
            }
        }
    }

    /** New; the search begun; THE PLAN laid; some overlapping; eight boxes; CLOSED. */
    private static PlaceRectangles inState(int kind) {
        if (kind == 0) {
            return new PlaceRectangles();
        }
        if (kind == 4) {
            PlaceRectangles full = Given.bin(2, 2, 2, Given.times(8, 1, 1, 1));
            full.run(17);
            full.lay(7, 0, 1, 1, 1);
            return full;
        }
        if (kind == 5) {
            PlaceRectangles closed = Given.bin(3, 3, 3, Given.of(2, 2, 2), Given.of(2, 2, 2));
            closed.run(20000);
            closed.lay(1, 0, 1, 0, 1);
            return closed;
        }
        PlaceRectangles x = begun(kind == 2 ? 20000 : 5);
        if (kind == 2) {
            x.plan();
            x.lift(2);
        }
        if (kind == 3) {
            x.lay(0, 0, 0, 0, 0);
        }
        return x;
    }

    private static List<Call> refusals(int kind, int boxes) {
        List<Call> calls = new ArrayList<>();
        wrongChanges(calls, boxes);
        wrongQuestions(calls, boxes);
        if (kind == 1 || kind == 3 || kind == 4 || kind == 5) {
            calls.add(new Call("plan()", STATE, x -> x.plan()));
        }
        if (kind == 1 || kind == 2 || kind == 3) {
            calls.add(new Call("lift(2)", STATE, x -> x.lift(2)));
            calls.add(new Call("support(2)", STATE, x -> x.support(2)));
            calls.add(new Call("relative(1, 2)", STATE, x -> x.relative(1, 2)));
            calls.add(new Call("relative(2, 1)", STATE, x -> x.relative(2, 1)));
            calls.add(new Call("lay(1, 1, 0, 0, 0)", BAD, x -> x.lay(1, 1, 0, 0, 0)));
        }
        if (kind == 3) {
            calls.add(new Call("tree()", STATE, x -> x.tree()));
            calls.add(new Call("node(0, 0)", STATE, x -> x.node(0, 0)));
        }
        if (kind == 4) {
            calls.add(new Call("box(1, 1, 1)", FULL, x -> x.box(1, 1, 1)));
            calls.add(new Call("lift(6)", STATE, x -> x.lift(6)));
        }
        return calls;
    }

    private static void wrongChanges(List<Call> calls, int boxes) {
        for (int n : Given.of(0, 21, Integer.MIN_VALUE)) {
            calls.add(new Call("bin(" + n + ", 5, 5)", BAD, x -> x.bin(n, 5, 5)));
            calls.add(new Call("bin(5, " + n + ", 5)", BAD, x -> x.bin(5, n, 5)));
            calls.add(new Call("bin(5, 5, " + n + ")", BAD, x -> x.bin(5, 5, n)));
            calls.add(new Call("box(" + n + ", 5, 5)", BAD, x -> x.box(n, 5, 5)));
            calls.add(new Call("box(5, " + n + ", 5)", BAD, x -> x.box(5, n, 5)));
            calls.add(new Call("box(5, 5, " + n + ")", BAD, x -> x.box(5, 5, n)));
            calls.add(new Call("run(" + -n + ")", BAD, x -> x.run(-n)));
        }
        for (int box : Given.of(-1, boxes, 32)) {
            calls.add(new Call("turns(" + box + ", 2)", BAD, x -> x.turns(box, 2)));
            calls.add(new Call("weight(" + box + ", 3)", BAD, x -> x.weight(box, 3)));
            calls.add(new Call("lay(" + box + ", 0, 0, 0, 0)", BAD, x -> x.lay(box, 0, 0, 0, 0)));
            calls.add(new Call("lift(" + box + ")", BAD, x -> x.lift(box)));
        }
        for (int n : Given.of(-1, 6, 20)) {
            calls.add(new Call("turns(0, " + (n == -1 ? 0 : 64) + ")", BAD, x -> x.turns(0, n == -1 ? 0 : 64)));
            calls.add(new Call("weight(0, " + (n == -1 ? -1 : 1001) + ")", BAD, x -> x.weight(0, n == -1 ? -1 : 1001)));
            calls.add(new Call("lay(0, " + n + ", 0, 0, 0)", BAD, x -> x.lay(0, n, 0, 0, 0)));
            calls.add(new Call("lay(0, 0, " + n + ", 0, 0)", BAD, x -> x.lay(0, 0, n, 0, 0)));
            calls.add(new Call("lay(0, 0, 0, " + n + ", 0)", BAD, x -> x.lay(0, 0, 0, n, 0)));
            calls.add(new Call("lay(0, 0, 0, 0, " + n + ")", BAD, x -> x.lay(0, 0, 0, 0, n)));
        }
        calls.add(new Call("run(20001)", BAD, x -> x.run(20001)));
    }

    private static void wrongQuestions(List<Call> calls, int boxes) {
        for (int n : Given.of(-1, 21, Integer.MAX_VALUE)) {
            calls.add(new Call("told(" + n + ", 0)", BAD, x -> x.told(n, 0)));
            calls.add(new Call("told(1, " + n + ")", BAD, x -> x.told(1, n)));
            calls.add(new Call("place(0, " + n + ")", BAD, x -> x.place(0, n)));
            calls.add(new Call("place(" + n + ", 0)", BAD, x -> x.place(n, 0)));
            calls.add(new Call("relative(0, " + n + ")", BAD, x -> x.relative(0, n)));
            calls.add(new Call("support(" + n + ")", BAD, x -> x.support(n)));
            calls.add(new Call("centre(" + n + ", 0)", BAD, x -> x.centre(n, 0)));
            calls.add(new Call("centre(0, " + n + ")", BAD, x -> x.centre(0, n)));
            calls.add(new Call("node(" + n + ", 0)", BAD, x -> x.node(n, 0)));
            calls.add(new Call("node(0, " + n + ")", BAD, x -> x.node(0, n)));
            calls.add(new Call("dual(" + n + ", 0, 0)", BAD, x -> x.dual(n, 0, 0)));
            calls.add(new Call("dual(0, " + n + ", 0)", BAD, x -> x.dual(0, n, 0)));
            calls.add(new Call("dual(0, 0, " + n + ")", BAD, x -> x.dual(0, 0, n)));
            calls.add(new Call("need(" + n + ", 0, 0, 0)", BAD, x -> x.need(n, 0, 0, 0)));
            calls.add(new Call("need(0, " + n + ", 0, 0)", BAD, x -> x.need(0, n, 0, 0)));
            calls.add(new Call("need(0, 0, " + n + ", 0)", BAD, x -> x.need(0, 0, n, 0)));
            calls.add(new Call("need(0, 0, 0, " + n + ")", BAD, x -> x.need(0, 0, 0, n)));
            calls.add(new Call("proof(" + n + ")", BAD, x -> x.proof(n)));
            calls.add(new Call("none(" + n + ", 0, 0, 0, 0)", BAD, x -> x.none(n, 0, 0, 0, 0)));
            calls.add(new Call("none(0, " + n + ", 0, 0, 0)", BAD, x -> x.none(0, n, 0, 0, 0)));
            calls.add(new Call("none(0, 0, 0, 0, " + n + ")", BAD, x -> x.none(0, 0, 0, 0, n)));
        }
        calls.add(new Call("relative(0, 0)", BAD, x -> x.relative(0, 0)));
    }
}
