import java.util.List;
import java.util.function.Consumer;

/**
 * Every call that the document lets be refused, for every wrong argument and every state that refuses it:
 * the answer that is due, and that nothing changes by it.
 */
public final class Refusals extends Checks {
    private static final int GOOD = 0, GONE = 9;
    private static final int[] WRONG_LABELS = {-1, 8, LOW, HIGH};
    private static final int[] WRONG_OF_EIGHT = {-1, 8, LOW, HIGH};
    private static final int[] WRONG_OF_FOUR = {-1, 4, LOW, HIGH};

    interface Call {
        long of(OnceStore o);
    }

    private static Consumer<OnceStore> run;
    private static List<String> before;

    private static void after(String where, Consumer<OnceStore> calls) {
        at(where);
        run = calls;
        before = seen(calls);
    }

    private static void refused(String what, Call call, long want) {
        OnceStore o = new OnceStore();
        run.accept(o);
        due(what, call.of(o), want);
        Consumer<OnceStore> with = run.andThen(call::of);
        due(what + " changed nothing", seen(with).equals(before), true);
    }

    private static void refused(String what, Call call) {
        refused(what, call, REFUSED);
    }

    /** All kinds of things are held; of 0 to 20 all but 9 are in USE. */
    private static void hold(OnceStore o) {
        for (int i = 0; i < 20; i++) {
            o.variable();
        }
        o.stream(0, 15);
        o.put(0, 16);
        for (int x = 0; x < 20; x++) {
            if (x != GONE && x != 17) {
                o.root(x, true);
            }
        }
        o.stream(1, 17);
        o.clear();
        o.stream(1, -1);
        o.number(1, LOW);
        o.number(19, HIGH);
        make(o, 2, 7, 3, 1, 2);
        make(o, 4, 7, 5, 19, 4);
        make(o, 18, 7, 1, 3);
        o.stream(2, 18);
        o.stream(3, 1);
        o.equal(6, 7);
        o.test(0, 3, 5);
        o.test(1, 6, -1);
        o.test(2, 1, 2);
        o.test(3, 1, -1);
        o.trigger(0, 8, 10);
        o.trigger(7, 11, 12);
        o.need(13);
        o.trigger(6, 13, 14);
        o.part(18);
    }

    private static void wrongVariable(int v) {
        refused("equal(" + v + ", 0)", o -> o.equal(v, GOOD));
        refused("equal(0, " + v + ")", o -> o.equal(GOOD, v));
        refused("equal(" + v + ", " + v + ")", o -> o.equal(v, v));
        refused("number(" + v + ", 3)", o -> o.number(v, 3));
        refused("part(" + v + ")", o -> o.part(v));
        refused("make(" + v + ", 0)", o -> o.make(v, 0));
        refused("compare(" + v + ", 0)", o -> o.compare(v, GOOD));
        refused("compare(0, " + v + ")", o -> o.compare(GOOD, v));
        refused("compare(" + v + ", " + v + ")", o -> o.compare(v, v));
        refused("test(0, " + v + ", 0)", o -> o.test(0, v, GOOD));
        refused("test(0, " + v + ", -1)", o -> o.test(0, v, -1));
        refused("trigger(0, " + v + ", 0)", o -> bit(o.trigger(0, v, GOOD)), 0);
        refused("trigger(0, 0, " + v + ")", o -> bit(o.trigger(0, GOOD, v)), 0);
        refused("need(" + v + ")", o -> bit(o.need(v)), 0);
        refused("put(0, " + v + ")", o -> o.put(0, v));
        refused("copy(" + v + ")", o -> o.copy(v));
        refused("different(" + v + ")", o -> o.different(v));
        refused("depth(" + v + ")", o -> o.depth(v));
        refused("matches(" + v + ", 0)", o -> o.matches(v, GOOD));
        refused("matches(0, " + v + ")", o -> o.matches(GOOD, v));
        refused("root(" + v + ", true)", o -> bit(o.root(v, true)), 0);
        refused("root(" + v + ", false)", o -> bit(o.root(v, false)), 0);
        refused("same(" + v + ")", o -> o.same(v));
        refused("node(" + v + ", 0, false)", o -> o.node(v, 0, false), NO_NODE);
        refused("node(" + v + ", 0, true)", o -> o.node(v, 0, true), NO_NODE);
        if (v != -1) {
            refused("test(0, 0, " + v + ")", o -> o.test(0, GOOD, v));
            refused("stream(0, " + v + ")", o -> bit(o.stream(0, v)), 0);
        }
    }

    private static void wrongNumbers() {
        for (int label : WRONG_LABELS) {
            refused("make(0, " + label + ")", o -> o.make(GOOD, label));
        }
        for (int t : WRONG_OF_EIGHT) {
            refused("test(" + t + ", 0, 1)", o -> o.test(t, GOOD, 1));
            refused("test(" + t + ", 0, -1)", o -> o.test(t, GOOD, -1));
            refused("tested(" + t + ")", o -> o.tested(t));
            refused("trigger(" + t + ", 0, 3)", o -> bit(o.trigger(t, GOOD, 3)), 0);
        }
        for (int s : WRONG_OF_FOUR) {
            refused("stream(" + s + ", 0)", o -> bit(o.stream(s, GOOD)), 0);
            refused("stream(" + s + ", -1)", o -> bit(o.stream(s, -1)), 0);
            refused("put(" + s + ", 0)", o -> o.put(s, GOOD));
            refused("end(" + s + ")", o -> o.end(s));
        }
        int[] whats = {-1, 5, LOW, HIGH};
        for (int what : whats) {
            refused("state(" + what + ")", o -> o.state(what));
        }
        int[] notes = {-2, 60, LOW, HIGH};
        for (int k : notes) {
            refused("noted(" + k + ")", o -> o.noted(k));
        }
        refused("noted(how many there were)", o -> o.noted(o.noted(-1)));
        int[] places = {-1, 41, LOW, HIGH};
        for (int k : places) {
            refused("node(2, " + k + ", false)", o -> o.node(2, k, false), NO_NODE);
            refused("node(2, " + k + ", true)", o -> o.node(2, k, true), NO_NODE);
        }
        refused("node(0, 1, false)", o -> o.node(0, 1, false), NO_NODE);
        refused("node(1, 1, true)", o -> o.node(1, 1, true), NO_NODE);
    }

    private static void tellingsThatFail() {
        refused("two ints", o -> o.number(1, HIGH), NO);
        refused("two ints by equal", o -> o.equal(19, 1), NO);
        refused("a RECORD and an int", o -> o.number(2, 0), NO);
        refused("an int and a RECORD by equal", o -> o.equal(1, 2), NO);
        refused("two numbers of PARTS", o -> o.equal(2, 18), NO);
        refused("the second PARTS, after the first ones would do", o -> o.equal(2, 4), NO);
        refused("put before another int", o -> o.put(2, 19), NO);
        refused("put behind an int", o -> o.put(3, 0), NO);
        asIf("make of an int", o -> o.make(1, 7), NO, o -> o.undraft());
        asIf("make of a RECORD with more PARTS", o -> o.make(2, 7), NO, o -> o.undraft());
        asIf("make of one with another LABEL", o -> {
            o.part(3);
            return o.make(18, 6);
        }, NO, o -> o.undraft());
        asIf("make of one whose second PART is an int", o -> {
            o.part(18);
            o.part(2);
            return o.make(2, 7);
        }, NO, o -> o.undraft());
    }

    /** The calls, of which the last one's answer is due, are to leave the store as the others do. */
    private static void asIf(String what, Call calls, long want, Consumer<OnceStore> others) {
        OnceStore o = new OnceStore();
        run.accept(o);
        due(what, calls.of(o), want);
        Consumer<OnceStore> with = run.andThen(calls::of);
        due(what + " changed no more", seen(with).equals(seen(run.andThen(others))), true);
    }

    private static void whatIsSoAlready() {
        refused("put into a STREAM that is not there", o -> o.put(1, GOOD));
        refused("the END of one that is not there", o -> o.end(1));
        refused("a ROOT already", o -> bit(o.root(GOOD, true)), 0);
        refused("no ROOT already", o -> bit(o.root(17, false)), 0);
    }

    private static void withoutTrials() {
        after("all kinds of things", Refusals::hold);
        int[] none = {-1, -2, GONE, 21, 47, 48, LOW, HIGH};
        for (int v : none) {
            wrongVariable(v);
        }
        wrongNumbers();
        tellingsThatFail();
        whatIsSoAlready();
        refused("finish(true) without a TRIAL", o -> bit(o.finish(true)), 0);
        refused("finish(false) without a TRIAL", o -> bit(o.finish(false)), 0);
    }

    private static void withinThreeTrials() {
        after("within three TRIALS", o -> {
            o.begin();
            hold(o);
            o.begin();
            o.number(0, 0);
            o.begin();
            o.number(16, 0);
        });
        int[] none = {-1, 21, 48};
        for (int v : none) {
            wrongVariable(v);
        }
        wrongNumbers();
        tellingsThatFail();
        refused("begin()", o -> o.begin());
        refused("clear()", o -> o.clear());
    }

    private static void withinOneTrial() {
        after("within a TRIAL", o -> {
            hold(o);
            o.begin();
        });
        refused("clear()", o -> o.clear());
    }

    private static void fullStore() {
        after("a full store", o -> {
            hold(o);
            for (int i = 20; i < 48; i++) {
                o.variable();
            }
            o.need(0);
        });
        refused("variable()", o -> o.variable(), FULL);
        refused("copy(0)", o -> o.copy(GOOD), FULL);
        refused("copy(2)", o -> o.copy(2), FULL);
        refused("put(0, 0)", o -> o.put(0, GOOD), FULL);
        refused("put that would FAIL", o -> o.put(3, GOOD), FULL);
        int[] none = {-1, -2, 48, 49, LOW, HIGH};
        for (int v : none) {
            wrongVariable(v);
        }
        whatIsSoAlready();
    }

    private static void almostFull() {
        after("a store with two left", o -> {
            hold(o);
            for (int i = 21; i < 47; i++) {
                o.variable();
            }
        });
        refused("copy of three", o -> o.copy(18), FULL);
        refused("copy of four", o -> o.copy(15), FULL);
    }

    private static void drafts() {
        after("three drafted", o -> {
            hold(o);
            o.part(0);
            o.part(0);
        });
        refused("part(0)", o -> o.part(GOOD));
        refused("part(9), not in USE", o -> o.part(GONE));
        for (int at = 0; at < 3; at++) {
            int gone = at;
            after("drafted, and the one at " + gone + " is gone", o -> {
                for (int i = 0; i < 4; i++) {
                    o.variable();
                }
                o.root(0, true);
                for (int i = 0; i < 3; i++) {
                    o.part(i == gone ? 3 : 0);
                }
                o.clear();
            });
            refused("make(0, 0)", o -> o.make(0, 0));
            refused("make(0, 8)", o -> o.make(0, 8));
            refused("make(3, 0)", o -> o.make(3, 0));
        }
    }

    private static void newObject() {
        after("a new object", o -> { });
        int[] none = {-1, -2, 0, 47, 48, LOW, HIGH};
        for (int v : none) {
            wrongVariable(v);
        }
        refused("noted(0)", o -> o.noted(0));
        refused("end(0)", o -> o.end(0));
        refused("finish(true)", o -> bit(o.finish(true)), 0);
        refused("finish(false)", o -> bit(o.finish(false)), 0);
    }

    public static void main(String[] args) {
        newObject();
        withoutTrials();
        withinThreeTrials();
        withinOneTrial();
        fullStore();
        almostFull();
        drafts();
        tellAndExit();
    }
}
