/** For each promise of the document, ordinary uses, and how it goes together with the others. */
public final class Promises extends Checks {
    private static final int[] NO_VARIABLE = {-1, -2, 47, 48, LOW, HIGH};

    private static void newObject() {
        OnceStore o = new OnceStore();
        for (int i = 0; i < 5; i++) {
            due("state(" + i + ")", o.state(i), 0);
        }
        for (int x = 0; x < 48; x++) {
            due("same(" + x + ")", o.same(x), REFUSED);
        }
        for (int t = 0; t < 8; t++) {
            due("tested(" + t + ")", o.tested(t), NOTHING);
        }
        for (int s = 0; s < 4; s++) {
            due("end(" + s + ")", o.end(s), REFUSED);
        }
        due("noted(-1)", o.noted(-1), 0);
        due("noted(0)", o.noted(0), REFUSED);
        due("undraft()", o.undraft(), 0);
        due("finish", o.finish(true), false);
        due("clear()", o.clear(), 0);
        o.variable();
        o.variable();
        due("nothing is asked for", o.trigger(0, 0, 1), true);
        due("so no TRIGGER goes", o.noted(-1), 0);
        due("and no ROOT is there", o.root(0, false), false);
        OnceStore other = new OnceStore();
        due("objects do not share", other.state(0), 0);
    }

    private static void variable() {
        OnceStore o = new OnceStore();
        for (int x = 0; x < 48; x++) {
            due("variable()", o.variable(), x);
            due("it is FREE", o.node(x, 0, false), 0);
        }
        due("none is left", o.variable(), FULL);
        due("still 48", o.state(0), 48);
        o.number(3, 5);
        o.need(3);
        for (int x = 0; x < 48; x++) {
            if (x != 3 && x != 5) {
                o.root(x, true);
            }
        }
        due("two go", o.clear(), 2);
        due("the least one", o.variable(), 3);
        due("FREE again", o.node(3, 0, false), 0);
        due("nobody asked for it", o.trigger(0, 3, 4), true);
        due("no TRIGGER went", o.noted(-1), 0);
        due("the next one", o.variable(), 5);
        due("none is left", o.variable(), FULL);
    }

    private static void equal() {
        OnceStore o = with(10);
        due("equal(3, 1)", o.equal(3, 1), YES);
        due("equal(3, 3)", o.equal(3, 3), YES);
        due("equal(3, 1) again", o.equal(3, 1), YES);
        due("same(3)", o.same(3), 1);
        due("number(3, 7)", o.number(3, 7), YES);
        due("1 has it too", o.node(1, 0, true), 7);
        o.number(4, 8);
        due("two ints", o.equal(4, 1), NO);
        make(o, 5, 2, 0, 6);
        make(o, 7, 2, 8, 9);
        due("RECORDS that fit", o.equal(5, 7), YES);
        due("first PARTS", o.same(8), 0);
        due("second PARTS", o.same(9), 6);
        for (int x : NO_VARIABLE) {
            due("equal(" + x + ", 0)", o.equal(x, 0), REFUSED);
            due("equal(0, " + x + ")", o.equal(0, x), REFUSED);
        }
        failsDeep();
        withinThemselves();
    }

    private static void failsDeep() {
        OnceStore o = with(8);
        o.number(0, 1);
        o.number(1, 2);
        make(o, 2, 0, 4, 0);
        make(o, 3, 0, 5, 1);
        due("the second PARTS FAIL", o.equal(2, 3), NO);
        due("4 and 5 are not the SAME", o.same(5), 5);
        make(o, 6, 1);
        due("other LABEL", o.equal(6, 2), NO);
        make(o, 7, 0, 4);
        due("other number of PARTS", o.equal(7, 2), NO);
        due("int and RECORD", o.equal(0, 6), NO);
    }

    private static void withinThemselves() {
        OnceStore o = with(4);
        make(o, 0, 1, 0);
        make(o, 1, 1, 2);
        make(o, 2, 1, 1);
        due("one turn and two turns", o.equal(0, 2), YES);
        due("all are the SAME", o.state(1), 2);
        due("same(2)", o.same(2), 0);
        o.number(3, 5);
        due("an int in it", o.equal(3, 0), NO);
    }

    private static void number() {
        OnceStore o = with(4);
        due("number(0, MIN)", o.number(0, LOW), YES);
        due("number(0, MIN) again", o.number(0, LOW), YES);
        due("number(0, MAX)", o.number(0, HIGH), NO);
        due("its number", o.node(0, 0, true), LOW);
        due("number(1, -1)", o.number(1, -1), YES);
        due("number(2, 0)", o.number(2, 0), YES);
        due("0 is an int, too", o.number(2, 1), NO);
        make(o, 3, 0);
        due("a RECORD", o.number(3, 0), NO);
        for (int x : NO_VARIABLE) {
            due("number(" + x + ", 1)", o.number(x, 1), REFUSED);
        }
    }

    private static void part() {
        OnceStore o = with(2);
        for (int x : NO_VARIABLE) {
            due("part(" + x + ")", o.part(x), REFUSED);
        }
        due("first", o.part(1), 1);
        due("second, the same one", o.part(1), 2);
        due("third", o.part(0), 3);
        due("fourth", o.part(0), REFUSED);
        due("three are drafted", o.state(4), 3);
        make(o, 0, 0);
        due("in their order", o.node(0, 1, true), 1);
        due("and the last is 0 itself", o.node(0, 3, false), 5);
    }

    private static void make() {
        OnceStore o = with(6);
        due("no PARTS", o.make(0, 7), YES);
        due("as it is", o.node(0, 0, false), 30);
        o.part(2);
        o.part(3);
        due("another number of PARTS", o.make(0, 7), NO);
        due("none are drafted then", o.state(4), 0);
        o.part(2);
        for (int x : NO_VARIABLE) {
            due("make(" + x + ", 0)", o.make(x, 0), REFUSED);
        }
        due("label -1", o.make(1, -1), REFUSED);
        due("label 8", o.make(1, 8), REFUSED);
        due("label MAX", o.make(1, HIGH), REFUSED);
        due("label MIN", o.make(1, LOW), REFUSED);
        due("still drafted", o.state(4), 1);
        due("still FREE", o.node(1, 0, false), 0);
        due("label 0", o.make(1, 0), YES);
        due("drafted no more", o.state(4), 0);
        due("the same again", make(o, 1, 0, 3), YES);
        due("so the PARTS are the SAME", o.same(3), 2);
        due("another LABEL", make(o, 1, 1, 3), NO);
        o.number(3, 4);
        o.number(4, 5);
        due("PARTS that FAIL", make(o, 1, 0, 4), NO);
        due("an int", make(o, 4, 0), NO);
        o.test(0, 5, -1);
        due("it settles", make(o, 5, 0), YES);
        due("decided", o.tested(0), YES);
        makeAfterGone();
    }

    private static void makeAfterGone() {
        OnceStore o = with(2);
        o.part(1);
        o.root(0, true);
        o.clear();
        due("a drafted one is gone", o.make(0, 3), REFUSED);
        due("it is still drafted", o.state(4), 1);
        due("another PART after it", o.part(0), 2);
        due("still gone", o.make(0, 3), REFUSED);
        due("its number comes again", o.variable(), 1);
        due("and counts", o.make(0, 3), YES);
        due("with both", o.node(0, 0, false), 2 + 12 + 2);
    }

    private static void undraft() {
        OnceStore o = with(1);
        due("none", o.undraft(), 0);
        o.part(0);
        o.part(0);
        due("two", o.undraft(), 2);
        due("none then", o.undraft(), 0);
        due("first again", o.part(0), 1);
    }

    private static void compare() {
        OnceStore o = with(16);
        due("with itself", o.compare(0, 0), YES);
        due("two FREE ones", o.compare(0, 1), WAITS);
        o.number(2, 5);
        o.number(3, 5);
        o.number(4, 6);
        due("one int", o.compare(2, 3), YES);
        due("they are not the SAME", o.same(3), 3);
        due("two ints", o.compare(2, 4), NO);
        due("FREE and int", o.compare(0, 2), WAITS);
        make(o, 5, 0, 2, 0);
        make(o, 6, 0, 3, 0);
        make(o, 7, 0, 3, 1);
        make(o, 8, 0, 4, 0);
        due("PARTS ALIKE", o.compare(5, 6), YES);
        due("PARTS OPEN", o.compare(5, 7), WAITS);
        due("PARTS UNLIKE", o.compare(5, 8), NO);
        due("OPEN and UNLIKE", o.compare(7, 8), NO);
        due("int and RECORD", o.compare(5, 2), NO);
        make(o, 9, 1, 9);
        make(o, 10, 1, 11);
        make(o, 11, 1, 10);
        due("both endless", o.compare(9, 11), YES);
        due("and the other way", o.compare(11, 9), YES);
        make(o, 12, 2, 0, 0);
        make(o, 13, 2, 2, 4);
        due("FREE 0 can't be 5 and 6", o.compare(12, 13), NO);
        make(o, 14, 2, 2, 3);
        due("but it can be 5 twice", o.compare(14, 12), WAITS);
        due("compare tells nothing", o.same(1), 1);
        for (int x : NO_VARIABLE) {
            due("compare(" + x + ", 0)", o.compare(x, 0), REFUSED);
            due("compare(0, " + x + ")", o.compare(0, x), REFUSED);
        }
    }

    private static void test() {
        OnceStore o = with(6);
        due("OPEN", o.test(0, 0, 1), WAITS);
        due("of one that is FREE", o.test(1, 2, -1), WAITS);
        due("with itself", o.test(7, 3, 3), YES);
        due("noted(0)", o.noted(0), 7);
        o.number(2, 5);
        due("not FREE any more", o.tested(1), YES);
        o.number(0, 1);
        due("still OPEN", o.tested(0), WAITS);
        o.number(1, 2);
        due("UNLIKE", o.tested(0), NO);
        due("noted(2)", o.noted(2), 8);
        due("set anew", o.test(0, 3, 4), WAITS);
        o.equal(3, 4);
        due("ALIKE", o.tested(0), YES);
        due("of one, decided at once", o.test(2, 0, -1), YES);
        due("an int and a FREE one", o.test(3, 0, 5), WAITS);
        due("test 8", o.test(8, 0, 1), REFUSED);
        due("test -1", o.test(-1, 0, 1), REFUSED);
        due("test MIN", o.test(LOW, 0, 1), REFUSED);
        for (int x : NO_VARIABLE) {
            due("test(0, " + x + ", 0)", o.test(0, x, 0), REFUSED);
            due("test(0, " + x + ", -1)", o.test(0, x, -1), REFUSED);
            if (x != -1) {
                due("test(0, 0, " + x + ")", o.test(0, 0, x), REFUSED);
            }
        }
        settledByTest();
    }

    private static void settledByTest() {
        OnceStore o = with(3);
        o.number(1, 5);
        o.trigger(3, 0, 1);
        due("its TRIGGER goes first", o.test(4, 0, -1), YES);
        due("noted(0)", o.noted(0), 16 + 3);
        due("noted(1)", o.noted(1), 4);
        due("0 has the int", o.node(0, 0, true), 5);
    }

    private static void tested() {
        OnceStore o = with(3);
        due("tested(-1)", o.tested(-1), REFUSED);
        due("tested(8)", o.tested(8), REFUSED);
        due("tested(MAX)", o.tested(HIGH), REFUSED);
        due("tested(0)", o.tested(0), NOTHING);
        o.number(0, 1);
        o.number(1, 2);
        o.test(0, 0, 1);
        o.test(7, 2, -1);
        due("NO", o.tested(0), NO);
        due("WAITS", o.tested(7), WAITS);
        o.clear();
        o.variable();
        o.variable();
        due("NO for good", o.tested(0), NO);
        due("its variables are others", o.compare(0, 1), WAITS);
    }

    private static void trigger() {
        OnceStore o = with(8);
        due("set", o.trigger(0, 0, 1), true);
        due("not NEEDED: it stays", o.same(1), 1);
        due("set anew", o.trigger(0, 0, 2), true);
        o.need(0);
        due("the newer one went", o.same(2), 0);
        due("not the older one", o.same(1), 1);
        due("NOTED", o.noted(0), 16);
        o.number(3, 4);
        due("x is not FREE", o.trigger(1, 3, 4), true);
        due("it does nothing", o.same(4), 4);
        due("and is not NOTED", o.noted(-1), 1);
        due("trigger -1", o.trigger(-1, 0, 1), false);
        due("trigger 8", o.trigger(8, 0, 1), false);
        due("trigger MAX", o.trigger(HIGH, 0, 1), false);
        for (int x : NO_VARIABLE) {
            due("trigger(0, " + x + ", 0)", o.trigger(0, x, 0), false);
            due("trigger(0, 0, " + x + ")", o.trigger(0, 0, x), false);
        }
        due("of itself", o.trigger(2, 0, 0), true);
        due("goes as well", o.noted(1), 18);
        triggersInOrder();
        allTriggersAtOnce();
        triggersRefusedStay();
    }

    private static void triggersInOrder() {
        OnceStore o = with(8);
        o.trigger(5, 0, 1);
        o.trigger(2, 0, 3);
        o.trigger(7, 1, 2);
        o.number(2, 9);
        o.need(0);
        due("the least one first", o.noted(0), 18);
        due("then 5, as 0 is still FREE", o.noted(1), 21);
        due("then 7, as 1 is the SAME as 0", o.noted(2), 23);
        due("no more", o.noted(-1), 3);
        due("3 has the int", o.node(3, 0, true), 9);
        o.trigger(4, 4, 5);
        o.trigger(3, 4, 6);
        o.number(5, 1);
        o.number(6, 2);
        o.need(4);
        due("3 goes", o.noted(3), 19);
        due("4 does nothing then", o.noted(-1), 4);
        due("4 has 2", o.node(4, 0, true), 2);
    }

    private static void allTriggersAtOnce() {
        OnceStore o = with(10);
        o.number(8, 5);
        o.number(9, 6);
        o.test(3, 0, 9);
        for (int k = 0; k < 8; k++) {
            o.trigger(k, k, k + 1);
        }
        due("none is NEEDED yet", o.noted(-1), 0);
        o.need(0);
        for (int k = 0; k < 8; k++) {
            due("one after the other", o.noted(k), 16 + k);
        }
        due("the TEST after the last one", o.noted(8), 8 + 3);
        due("no more", o.noted(-1), 9);
    }

    private static void triggersRefusedStay() {
        OnceStore o = with(3);
        o.trigger(0, 0, 1);
        due("REFUSED", o.trigger(0, 0, 9), false);
        o.need(0);
        due("the TRIGGER was still there", o.same(1), 0);
    }

    private static void need() {
        OnceStore o = with(8);
        for (int x : NO_VARIABLE) {
            due("need(" + x + ")", o.need(x), false);
        }
        due("need(0)", o.need(0), true);
        due("need(0) again", o.need(0), true);
        o.trigger(0, 1, 2);
        due("1 is not NEEDED", o.same(2), 2);
        o.equal(0, 1);
        due("now it is", o.same(2), 0);
        due("NOTED", o.noted(0), 16);
        o.test(0, 3, 4);
        o.trigger(1, 3, 5);
        due("a TEST of two needs none", o.noted(-1), 1);
        o.test(1, 4, -1);
        due("4 is NEEDED, 3 is not", o.noted(-1), 1);
        o.equal(3, 4);
        due("both TESTS and TRIGGER", o.noted(-1), 3);
        due("the TEST of two first", o.noted(1), 0);
        due("then the TRIGGER", o.noted(2), 17);
        due("the TEST of one WAITS", o.tested(1), WAITS);
        o.test(1, 6, -1);
        o.trigger(2, 5, 7);
        due("4 is not NEEDED any more", o.noted(-1), 3);
        due("need(7)", o.need(7), true);
        o.number(7, 3);
        due("an int is NEEDED in vain", o.need(7), true);
    }

    private static void noted() {
        OnceStore o = with(3);
        due("none", o.noted(-1), 0);
        due("noted(0)", o.noted(0), REFUSED);
        for (int i = 0; i < 59; i++) {
            o.test(i % 8, 0, 0);
        }
        due("59", o.noted(-1), 59);
        due("noted(58)", o.noted(58), 58 % 8);
        due("noted(59)", o.noted(59), REFUSED);
        o.need(1);
        o.trigger(5, 1, 2);
        due("noted(59)", o.noted(59), 21);
        o.number(0, 1);
        o.number(1, 2);
        o.test(6, 0, 1);
        due("61", o.noted(-1), 61);
        due("noted(60) is not kept", o.noted(60), REFUSED);
        due("noted(59) is", o.noted(59), 21);
        due("noted(0) is", o.noted(0), 0);
        due("noted(-2)", o.noted(-2), REFUSED);
        due("noted(MIN)", o.noted(LOW), REFUSED);
        due("noted(MAX)", o.noted(HIGH), REFUSED);
        OnceStore other = with(2);
        other.number(0, 1);
        other.number(1, 2);
        other.test(6, 0, 1);
        due("TEST 6 NO", other.noted(0), 14);
    }

    private static void stream() {
        OnceStore o = with(2);
        due("stream(0, 1)", o.stream(0, 1), true);
        due("stream(3, 1)", o.stream(3, 1), true);
        due("end(3)", o.end(3), 1);
        due("stream(3, 0)", o.stream(3, 0), true);
        due("end(3)", o.end(3), 0);
        due("stream(-1, 0)", o.stream(-1, 0), false);
        due("stream(4, 0)", o.stream(4, 0), false);
        due("stream(4, -1)", o.stream(4, -1), false);
        due("stream(MAX, 0)", o.stream(HIGH, 0), false);
        for (int x : NO_VARIABLE) {
            if (x != -1) {
                due("stream(3, " + x + ")", o.stream(3, x), false);
            }
        }
        due("end(3) is as it was", o.end(3), 0);
        due("stream(3, -1)", o.stream(3, -1), true);
        due("end(3)", o.end(3), REFUSED);
        due("once more", o.stream(3, -1), true);
        due("end(0)", o.end(0), 1);
    }

    private static void put() {
        OnceStore o = with(3);
        due("no STREAM yet", o.put(0, 1), REFUSED);
        o.stream(0, 0);
        due("put(0, 1)", o.put(0, 1), YES);
        due("the END", o.end(0), 3);
        due("LABEL 7 with two PARTS", o.node(0, 0, false), 2 + 28 + 2);
        due("the first one", o.node(0, 1, true), 1);
        due("the second one", o.node(0, 2, true), 3);
        due("put(0, 2)", o.put(0, 2), YES);
        due("the END", o.end(0), 4);
        due("depth", o.depth(0), 2);
        due("put(-1, 1)", o.put(-1, 1), REFUSED);
        due("put(4, 1)", o.put(4, 1), REFUSED);
        due("put(1, 1)", o.put(1, 1), REFUSED);
        for (int x : NO_VARIABLE) {
            due("put(0, " + x + ")", o.put(0, x), REFUSED);
        }
        o.stream(1, 0);
        due("where others put 1 and 2", o.put(1, 1), YES);
        due("END 5 is the SAME as 3", o.same(5), 3);
        due("the END", o.end(1), 5);
        putFails();
        putFull();
        putSettles();
    }

    private static void putFails() {
        OnceStore o = with(4);
        o.stream(0, 0);
        o.number(1, 1);
        o.number(2, 2);
        o.put(0, 1);
        o.stream(0, 0);
        due("2 for 1", o.put(0, 2), NO);
        o.stream(1, 1);
        due("END is an int", o.put(1, 2), NO);
        due("END", o.end(1), 1);
        due("variable()", o.variable(), 5);
    }

    private static void putFull() {
        OnceStore o = with(48);
        o.stream(0, 0);
        o.number(0, 3);
        due("FULL before NO", o.put(0, 1), FULL);
        due("REFUSED before FULL", o.put(1, 1), REFUSED);
        due("REFUSED before FULL", o.put(0, 48), REFUSED);
        due("END", o.end(0), 0);
    }

    private static void putSettles() {
        OnceStore o = with(2);
        o.stream(2, 0);
        o.test(5, 0, -1);
        due("put(2, 0)", o.put(2, 0), YES);
        due("decided", o.tested(5), YES);
        due("NOTED", o.noted(0), 5);
    }

    private static void end() {
        OnceStore o = with(2);
        due("end(-1)", o.end(-1), REFUSED);
        due("end(4)", o.end(4), REFUSED);
        due("end(MIN)", o.end(LOW), REFUSED);
        due("end(2)", o.end(2), REFUSED);
        o.equal(0, 1);
        o.stream(2, 1);
        due("the END itself, not the least", o.end(2), 1);
    }

    private static void begin() {
        OnceStore o = with(1);
        due("first", o.begin(), 1);
        due("second", o.begin(), 2);
        due("third", o.begin(), 3);
        due("fourth", o.begin(), REFUSED);
        due("three", o.state(3), 3);
        o.finish(true);
        due("third again", o.begin(), 3);
    }

    private static void finish() {
        OnceStore o = with(8);
        due("there is none", o.finish(false), false);
        due("there is none", o.finish(true), false);
        o.number(6, 1);
        o.number(7, 2);
        o.trigger(0, 4, 5);
        o.test(0, 6, -1);
        o.test(1, 0, 1);
        o.stream(0, 0);
        o.root(2, true);
        o.begin();
        changeAll(o);
        due("taken back", o.finish(false), true);
        due("a ROOT still", o.root(2, true), false);
        due("no ROOT still", o.root(3, false), false);
        o.need(4);
        due("the TRIGGER is there again", o.same(5), 4);
        due("2 was not asked for", o.trigger(3, 2, 3), true);
        due("so it is not there", o.same(3), 3);
        nestedTrials();
        draftedInTrial();
    }

    private static void changeAll(OnceStore o) {
        o.variable();
        o.equal(0, 1);
        o.number(2, 5);
        make(o, 3, 1, 3, 0);
        o.need(4);
        o.need(2);
        o.test(2, 6, 7);
        o.trigger(6, 0, 1);
        o.stream(1, 3);
        o.put(0, 1);
        o.root(2, false);
        o.root(3, true);
        o.copy(3);
    }

    private static void nestedTrials() {
        OnceStore o = with(4);
        o.begin();
        o.equal(0, 1);
        o.begin();
        o.equal(0, 2);
        o.begin();
        o.equal(0, 3);
        due("third taken back", o.finish(false), true);
        due("3 is alone", o.same(3), 3);
        due("second kept", o.finish(true), true);
        due("2 is the SAME", o.same(2), 0);
        due("one is left", o.state(3), 1);
        due("first taken back", o.finish(false), true);
        due("all are alone", o.state(1), 4);
        due("none is left", o.state(3), 0);
        o.begin();
        o.number(0, 1);
        o.finish(true);
        due("kept", o.node(0, 0, true), 1);
        due("there is none", o.finish(false), false);
    }

    private static void draftedInTrial() {
        OnceStore o = with(2);
        o.part(0);
        o.begin();
        o.part(o.variable());
        o.finish(false);
        due("both are drafted", o.state(4), 2);
        due("2 is not in USE", o.make(1, 0), REFUSED);
        o.begin();
        o.undraft();
        o.finish(false);
        due("none is drafted", o.state(4), 0);
    }

    private static void copy() {
        OnceStore o = with(8);
        o.number(2, 5);
        o.number(3, 5);
        make(o, 1, 1, 3, 4);
        make(o, 0, 0, 1, 2, 4);
        o.root(5, true);
        due("the copy", o.copy(0), 8);
        due("new are 0, 1, 3 with 2, 4", o.state(0), 12);
        due("0", o.node(8, 0, false), 5);
        due("1", o.node(8, 1, false), 2 + 4 + 2);
        due("3", o.node(8, 2, true), 5);
        due("4", o.node(8, 3, true), 11);
        due("2", o.node(8, 4, true), 5);
        due("4 again", o.node(8, 5, true), 11);
        due("no more", o.node(8, 6, false), NO_NODE);
        due("the second is that of 1", o.node(9, 0, false), 8);
        due("the third is the int", o.node(10, 0, false), 1);
        due("they are OPEN", o.compare(0, 8), WAITS);
        due("they are others", o.same(8), 8);
        due("and fit", o.matches(0, 8), YES);
        due("of a FREE one", o.copy(5), 12);
        due("it is FREE", o.node(12, 0, false), 0);
        due("the copy is no ROOT", o.root(12, true), true);
        for (int x : NO_VARIABLE) {
            due("copy(" + x + ")", o.copy(x), REFUSED);
        }
        copyEndless();
        copyFull();
        copyIntoHoles();
    }

    private static void copyEndless() {
        OnceStore o = with(3);
        make(o, 0, 0, 1, 2);
        make(o, 1, 0, 0, 2);
        due("the copy", o.copy(1), 3);
        due("0 and 1 are ALIKE: one for both", o.state(0), 5);
        due("in itself", o.node(3, 1, false), 4);
        due("endless", o.depth(3), ENDLESS);
        due("all the way", o.node(3, 40, false), 4);
        o.number(4, 1);
        due("not the old one", o.node(2, 0, false), 0);
    }

    private static void copyFull() {
        OnceStore o = with(46);
        make(o, 0, 0, 1, 2);
        due("three into two", o.copy(0), FULL);
        o.equal(1, 2);
        due("two into two", o.copy(0), 46);
        due("all in USE", o.state(0), 48);
        due("one into none", o.copy(3), FULL);
    }

    private static void copyIntoHoles() {
        OnceStore o = with(8);
        make(o, 2, 0, 4, 6);
        o.root(2, true);
        o.clear();
        due("the copy", o.copy(2), 0);
        due("first PART", o.node(0, 1, true), 1);
        due("second PART", o.node(0, 2, true), 3);
        due("in the order of meeting", o.state(0), 6);
        o.need(4);
        o.trigger(0, 1, 3);
        due("what is asked for is not copied", o.noted(-1), 0);
    }

    private static void different() {
        OnceStore o = with(8);
        due("a FREE one", o.different(0), 1);
        o.number(1, 3);
        o.number(2, 3);
        make(o, 3, 0, 1, 2, 0);
        due("two ints are one", o.different(3), 3);
        make(o, 4, 0, 3, 3, 5);
        due("two FREE ones are two", o.different(4), 5);
        make(o, 6, 1, 7);
        make(o, 7, 1, 6);
        due("one, though of two", o.different(6), 1);
        due("no more in USE", o.state(0), 8);
        for (int x : NO_VARIABLE) {
            due("different(" + x + ")", o.different(x), REFUSED);
        }
    }

    private static void depth() {
        OnceStore o = with(8);
        o.number(1, 3);
        due("FREE", o.depth(0), 0);
        due("an int", o.depth(1), 0);
        make(o, 2, 0);
        due("no PARTS", o.depth(2), 1);
        make(o, 3, 0, 1, 2, 0);
        due("the deepest one counts", o.depth(3), 2);
        make(o, 4, 0, 3, 5);
        due("three", o.depth(4), 3);
        o.equal(5, 4);
        due("within itself", o.depth(4), ENDLESS);
        due("not what lies in it", o.depth(3), 2);
        make(o, 6, 1, 4);
        due("with such a PART", o.depth(6), ENDLESS);
        for (int x : NO_VARIABLE) {
            due("depth(" + x + ")", o.depth(x), REFUSED);
        }
        OnceStore chain = with(48);
        for (int x = 0; x < 47; x++) {
            make(chain, x, 0, x + 1);
        }
        due("47 and a FREE one", chain.depth(0), 47);
        chain.make(47, 0);
        due("48", chain.depth(0), 48);
        due("from the middle", chain.depth(40), 8);
        OnceStore round = with(48);
        for (int x = 0; x < 48; x++) {
            make(round, x, x == 0 ? 1 : 0, (x + 47) % 48);
        }
        due("all in one round", round.depth(20), ENDLESS);
    }

    private static void matches() {
        OnceStore o = with(16);
        due("FREE with FREE", o.matches(0, 1), YES);
        o.number(2, 5);
        o.number(3, 5);
        o.number(4, 6);
        due("FREE with an int", o.matches(0, 2), YES);
        due("an int with FREE", o.matches(2, 0), NO);
        due("the same int", o.matches(2, 3), YES);
        due("another int", o.matches(2, 4), NO);
        make(o, 5, 0, 0, 0);
        make(o, 6, 0, 2, 3);
        make(o, 7, 0, 2, 4);
        make(o, 8, 0, 1, 10);
        due("0 meets 5 and 5", o.matches(5, 6), YES);
        due("0 meets 5 and 6", o.matches(5, 7), NO);
        due("0 meets 1 and 10", o.matches(5, 8), NO);
        due("1 and 10 meet 0", o.matches(8, 5), YES);
        due("a RECORD with FREE", o.matches(5, 1), NO);
        due("a RECORD with an int", o.matches(5, 2), NO);
        make(o, 9, 1, 0, 0);
        due("another LABEL", o.matches(5, 9), NO);
        make(o, 11, 0, 0);
        due("another number of PARTS", o.matches(5, 11), NO);
        o.equal(1, 10);
        due("1 is the SAME as 10, meeting 5 and 6", o.matches(8, 7), NO);
        due("meeting 5 and 5", o.matches(8, 6), YES);
        make(o, 12, 2, 12, 13);
        make(o, 14, 2, 15, 2);
        make(o, 15, 2, 14, 3);
        due("endless, 13 meets 2 and 3", o.matches(12, 14), YES);
        due("not the other way", o.matches(14, 12), NO);
        due("with itself", o.matches(12, 12), YES);
        due("matches tells nothing", o.node(13, 0, false), 0);
        for (int x : NO_VARIABLE) {
            due("matches(" + x + ", 0)", o.matches(x, 0), REFUSED);
            due("matches(0, " + x + ")", o.matches(0, x), REFUSED);
        }
    }

    private static void root() {
        OnceStore o = with(2);
        due("it is none", o.root(0, false), false);
        due("now it is", o.root(0, true), true);
        due("it was so", o.root(0, true), false);
        due("kept", o.clear(), 1);
        due("now it is not", o.root(0, false), true);
        due("it was so", o.root(0, false), false);
        due("not kept", o.clear(), 1);
        for (int x : NO_VARIABLE) {
            due("root(" + x + ", true)", o.root(x, true), false);
            due("root(" + x + ", false)", o.root(x, false), false);
        }
        due("0 is not in USE", o.root(0, true), false);
        o.variable();
        due("and no ROOT when it is again", o.root(0, true), true);
    }

    private static void clear() {
        OnceStore o = with(20);
        o.root(0, true);
        o.equal(0, 1);
        make(o, 1, 0, 2, 3);
        make(o, 3, 0, 4);
        o.stream(0, 5);
        o.test(0, 6, 7);
        o.test(1, 8, -1);
        o.test(2, 9, 9);
        o.trigger(0, 10, 11);
        make(o, 12, 0, 13);
        make(o, 12, 0, 0);
        o.need(14);
        o.part(15);
        o.begin();
        due("within a TRIAL", o.clear(), REFUSED);
        due("nothing went", o.state(0), 20);
        o.finish(true);
        due("9, 12, and 14 to 19 go", o.clear(), 8);
        int[] stay = {0, 1, 2, 3, 4, 5, 6, 7, 8, 10, 11, 13};
        for (int x : stay) {
            due("stays: " + x, o.same(x) >= 0, true);
        }
        due("so many", o.state(0), stay.length);
        due("13 is the SAME as 0 still", o.same(13), 0);
        due("a drafted one goes", o.same(15), REFUSED);
        due("but stays drafted", o.state(4), 1);
        due("the TEST is as it was", o.tested(2), YES);
        due("none more", o.clear(), 0);
        due("9 again", o.variable(), 9);
        due("12 again", o.variable(), 12);
        due("12 is FREE", o.node(12, 0, false), 0);
        due("14 again", o.variable(), 14);
        o.trigger(1, 14, 9);
        due("14 is not asked for", o.noted(-1), 1);
        clearKeepsAsked();
    }

    private static void clearKeepsAsked() {
        OnceStore o = with(3);
        o.need(0);
        o.root(0, true);
        due("two go", o.clear(), 2);
        o.variable();
        o.trigger(0, 0, 1);
        due("0 is asked for still", o.noted(0), 16);
        o.root(0, false);
        due("TRIGGERS that have gone keep none", o.clear(), 2);
    }

    private static void same() {
        OnceStore o = with(6);
        due("itself", o.same(5), 5);
        o.equal(5, 3);
        o.equal(3, 4);
        due("the least", o.same(5), 3);
        due("the least", o.same(4), 3);
        due("itself", o.same(3), 3);
        o.equal(4, 1);
        due("a lesser one", o.same(5), 1);
        o.number(0, 2);
        o.number(2, 2);
        due("ALIKE is not the SAME", o.same(2), 2);
        for (int x : NO_VARIABLE) {
            due("same(" + x + ")", o.same(x), REFUSED);
        }
    }

    private static void node() {
        OnceStore o = with(6);
        o.number(1, LOW);
        o.equal(2, 3);
        make(o, 4, 7, 1, 3, 1);
        make(o, 0, 0, 4, 5);
        long[] kinds = {4, 2 + 28 + 3, 1, 0, 1, 0, NO_NODE};
        long[] numbers = {0, 0, LOW, 2, LOW, 5, NO_NODE};
        for (int k = 0; k < kinds.length; k++) {
            due("node(0, " + k + ", false)", o.node(0, k, false), kinds[k]);
            due("node(0, " + k + ", true)", o.node(0, k, true), numbers[k]);
        }
        due("node(0, -1, false)", o.node(0, -1, false), NO_NODE);
        due("node(0, MIN, true)", o.node(0, LOW, true), NO_NODE);
        due("node(0, MAX, true)", o.node(0, HIGH, true), NO_NODE);
        for (int x : NO_VARIABLE) {
            due("node(" + x + ", 0, false)", o.node(x, 0, false), NO_NODE);
            due("node(" + x + ", 0, true)", o.node(x, 0, true), NO_NODE);
        }
        o.equal(5, 0);
        due("written out again", o.node(0, 5, false), 4);
        due("node 40 of one without end", o.node(0, 40, false), 4);
        due("node 41", o.node(0, 41, false), NO_NODE);
        OnceStore left = with(4);
        make(left, 0, 1, 0, 1, 2);
        due("all to the left", left.node(0, 40, false), 9);
        OnceStore wide = with(5);
        make(wide, 0, 0, 1, 1, 1);
        make(wide, 1, 0, 2, 2, 2);
        make(wide, 2, 0, 3, 3, 3);
        due("40 nodes: the last one", wide.node(0, 39, true), 3);
        due("and none behind it", wide.node(0, 40, true), NO_NODE);
    }

    private static void state() {
        OnceStore o = with(6);
        o.equal(0, 1);
        o.number(2, 3);
        o.number(3, 3);
        make(o, 4, 0);
        o.begin();
        o.begin();
        o.part(0);
        due("in USE", o.state(0), 6);
        due("not the SAME", o.state(1), 5);
        due("FREE", o.state(2), 2);
        due("TRIALS", o.state(3), 2);
        due("drafted", o.state(4), 1);
        due("state(5)", o.state(5), REFUSED);
        due("state(-1)", o.state(-1), REFUSED);
        due("state(MIN)", o.state(LOW), REFUSED);
    }

    private static void orderAndLimits() {
        OnceStore o = with(8);
        o.number(0, 1);
        o.part(1);
        due("NO", o.make(0, 0), NO);
        due("none are drafted", o.undraft(), 0);
        o.trigger(0, 2, 3);
        o.need(2);
        o.root(2, true);
        o.equal(1, 4);
        due("1, 4 and others go; 3 is the SAME as 2", o.clear(), 6);
        due("the TRIGGER is not there", o.noted(-1), 1);
        OnceStore sames = with(6);
        sames.test(0, 0, -1);
        sames.equal(0, 1);
        sames.trigger(0, 1, 2);
        due("NEEDED, as it is the SAME", sames.noted(0), 16);
        sames.root(3, true);
        sames.root(4, true);
        make(sames, 5, 0, 3);
        make(sames, 5, 0, 4);
        due("5 goes", sames.clear(), 1);
        due("3 and 4 are the SAME still", sames.same(4), 3);
        due("5 again", sames.variable(), 5);
        due("5 is FREE", make(sames, 5, 1, 0), YES);
        OnceStore chain = with(48);
        for (int x = 0; x < 48; x++) {
            make(chain, x, 3, (x + 1) % 48, (x + 5) % 48, (x + 7) % 48);
        }
        due("all ALIKE", chain.different(0), 1);
        due("matches", chain.matches(0, 30), YES);
        due("all become the SAME", chain.equal(0, 1), YES);
        due("one is left", chain.state(1), 1);
    }

    private static void constants() {
        due("REFUSED", OnceStore.REFUSED, REFUSED);
        due("FULL", OnceStore.FULL, FULL);
        due("ENDLESS", OnceStore.ENDLESS, ENDLESS);
        due("NOTHING", OnceStore.NOTHING, NOTHING);
        due("YES", OnceStore.YES, YES);
        due("NO", OnceStore.NO, NO);
        due("WAITS", OnceStore.WAITS, WAITS);
    }

    public static void main(String[] args) {
        Runnable[] promises = {Promises::constants, Promises::newObject, Promises::variable, Promises::equal,
            Promises::number, Promises::part, Promises::make, Promises::undraft, Promises::compare, Promises::test,
            Promises::tested, Promises::trigger, Promises::need, Promises::noted, Promises::stream, Promises::put,
            Promises::end, Promises::begin, Promises::finish, Promises::copy, Promises::different, Promises::depth,
            Promises::matches, Promises::root, Promises::clear, Promises::same, Promises::node, Promises::state,
            Promises::orderAndLimits};
        for (int promise = 0; promise < promises.length; promise++) {
            at("promise " + promise);
            promises[promise].run();
        }
        tellAndExit();
    }
}
