import java.io.IOException;
import java.nio.file.Files;
import java.nio.file.Path;
import java.util.LinkedHashMap;
import java.util.Map;
import java.util.function.Consumer;

/**
 * The document, sentence by sentence: each test names the words that it holds the store to, and would fail if
 * they were broken. The words must stand in the chapter, and all words of a chapter must have been named.
 */
public final class Sentences extends Checks {
    private static final Map<String, String> chapters = new LinkedHashMap<>();
    private static String chapter = "";
    private static boolean[] named = {};

    private static void readDocument() throws IOException {
        String name = "";
        for (String line : Files.readAllLines(Path.of("../shared/DOC.md"))) {
            if (line.startsWith("## ")) {
                name = line.substring(3);
            } else if (!line.startsWith("```")) {
                chapters.merge(name, line.strip(), (text, more) -> (text + " " + more).strip());
            }
        }
    }

    private static void chapter(String name, Runnable tests) {
        at(name);
        chapter = chapters.getOrDefault(name, "");
        due("the chapter is there", !chapter.isEmpty(), true);
        named = new boolean[chapter.length()];
        tests.run();
        at(name);
        StringBuilder left = new StringBuilder();
        for (int i = 0; i < chapter.length(); i++) {
            left.append(named[i] ? ' ' : chapter.charAt(i));
        }
        // What stands between accents is the method's head, which LanguageRules looks at.
        String rest = left.toString().replaceAll("`[^`]*`:", "").strip();
        due("not named: " + rest, rest.length(), 0);
    }

    private static void sentence(String words, Runnable test) {
        at(words);
        int from = chapter.indexOf(words);
        due("the words are there", from >= 0, true);
        for (int i = 0; i < words.length() && from >= 0; i++) {
            named[from + i] = true;
        }
        test.run();
    }

    private static OnceStore after(Consumer<OnceStore> calls) {
        OnceStore o = new OnceStore();
        calls.accept(o);
        return o;
    }

    private static Consumer<OnceStore> having(int variables, Consumer<OnceStore> calls) {
        return o -> {
            for (int i = 0; i < variables; i++) {
                o.variable();
            }
            calls.accept(o);
        };
    }

    private static void dueNotes(OnceStore o, int... notes) {
        due("how many were NOTED", o.noted(-1), notes.length);
        for (int k = 0; k < notes.length; k++) {
            due("noted(" + k + ")", o.noted(k), notes[k]);
        }
    }

    private static void dueNodes(OnceStore o, int x, long... kinds) {
        for (int k = 0; k < kinds.length; k++) {
            due("node(" + x + ", " + k + ", false)", o.node(x, k, false), kinds[k]);
        }
        due("node(" + x + ", " + kinds.length + ", false)", o.node(x, kinds.length, false), NO_NODE);
    }

    private static void dueNumbers(OnceStore o, int x, long... numbers) {
        for (int k = 0; k < numbers.length; k++) {
            due("node(" + x + ", " + k + ", true)", o.node(x, k, true), numbers[k]);
        }
        due("node(" + x + ", " + numbers.length + ", true)", o.node(x, numbers.length, true), NO_NODE);
    }

    private static void dueInUse(OnceStore o, int... variables) {
        boolean[] is = new boolean[48];
        for (int x : variables) {
            is[x] = true;
        }
        for (int x = 0; x < 48; x++) {
            due("in USE: " + x, o.same(x) != REFUSED, is[x]);
        }
        due("how many are in USE", o.state(0), variables.length);
    }

    /** Each variable from 0 on has the next one as its one PART, the last one is left FREE. */
    private static OnceStore chain(int variables) {
        OnceStore o = with(variables);
        for (int x = 0; x < variables - 1; x++) {
            make(o, x, 0, x + 1);
        }
        return o;
    }

    private static void whatItIs() {
        String words = chapter.substring(0, Math.max(0, chapter.indexOf("An object is used")));
        sentence(words.strip(), () -> due("a store", new OnceStore().state(0), 0));
        sentence("An object is used for at most 512 calls after it has been made;", () -> {
            OnceStore o = with(1);
            for (int call = 2; call <= 511; call++) {
                due("call " + call, o.test(call % 8, 0, 0), YES);
            }
            due("call 512", o.noted(-1), 510);
            OnceStore puts = with(2);
            puts.stream(0, 0);
            for (int call = 4; call <= 49; call++) {
                due("call " + call, puts.put(0, 1), YES);
            }
            for (int call = 50; call <= 511; call++) {
                due("call " + call, puts.put(0, 1), FULL);
            }
            due("call 512", puts.depth(0), 46);
        });
        sentence("what later calls answer is free.", Sentences::manyCallsEnd);
    }

    /** Free or not, no call may throw. */
    private static void manyCallsEnd() {
        OnceStore o = new OnceStore();
        int[] odd = {LOW, -2, -1, 48, HIGH};
        for (int i = 0; i < 40000; i++) {
            int a = i * 31 % 53;
            int x = a < 48 ? a : odd[a - 48];
            int b = i * 17 % 59;
            int y = b < 48 ? b : odd[b % 5];
            callAny(o, i % 27, x, y, (i >> 5) % 9, i % 3 == 0);
        }
        due("it has ended", true, true);
    }

    private static void callAny(OnceStore o, int which, int x, int y, int t, boolean is) {
        switch (which) {
            case 0 -> o.variable();
            case 1 -> o.equal(x, y);
            case 2 -> o.number(x, y);
            case 3, 4, 5 -> o.part(x);
            case 6 -> o.make(x, t);
            case 7 -> o.undraft();
            case 8 -> o.compare(x, y);
            case 9 -> o.test(t, x, is ? -1 : y);
            case 10 -> o.tested(t);
            case 11 -> o.trigger(t, x, y);
            case 12 -> o.need(x);
            case 13 -> o.noted(y);
            case 14 -> o.stream(t, x);
            case 15 -> o.put(t, x);
            case 16 -> o.end(t);
            case 17 -> o.begin();
            case 18 -> o.finish(is);
            case 19 -> o.copy(x);
            case 20 -> o.different(x);
            case 21 -> o.depth(x);
            case 22 -> o.matches(x, y);
            case 23 -> o.root(x, is);
            case 24 -> o.clear();
            case 25 -> o.node(x, y, is);
            default -> o.state(t);
        }
    }

    private static void variablesAndEquations() {
        sentence("VARIABLES 0..47 are in USE, or not (at first none is).", () -> {
            OnceStore o = new OnceStore();
            dueInUse(o);
            for (int x = 0; x < 48; x++) {
                o.variable();
            }
            due("the first one", o.number(0, 5), YES);
            due("the last one", o.number(47, 5), YES);
            due("one before the first one", o.number(-1, 5), REFUSED);
            due("one behind the last one", o.number(48, 5), REFUSED);
            due("first with last", o.equal(0, 47), YES);
            due("48 in USE", o.state(0), 48);
            OnceStore asked = with(48);
            for (int x = 0; x < 48; x++) {
                asked.need(x);
                asked.root(x, true);
            }
            due("48 in USE, also if all are asked for", asked.state(0), 48);
            due("47 is the last one still", asked.same(48), REFUSED);
            due("0 is the first one still", asked.same(-1), REFUSED);
            OnceStore few = with(3);
            few.need(0);
            due("three in USE", few.state(0), 3);
        });
        sentence("EQUATIONS are told of them: x = y, x = an int, x = a RECORD:", () -> {
            OnceStore o = with(6);
            due("x = y", o.equal(0, 1), YES);
            due("so", o.same(1), 0);
            due("x = an int", o.number(2, HIGH), YES);
            due("so", o.node(2, 0, true), HIGH);
            due("x = a RECORD", make(o, 3, 0, 4), YES);
            due("so", o.node(3, 1, true), 4);
        });
        sentence("a LABEL 0..7 with 0 to 3 PARTS, which are variables in USE.", () -> {
            OnceStore o = with(40);
            for (int label = 0; label < 8; label++) {
                for (int parts = 0; parts < 4; parts++) {
                    int x = 4 * label + parts;
                    for (int i = 0; i < parts; i++) {
                        due("part", o.part(33 + i), i + 1);
                    }
                    due("make(" + x + ", " + label + ")", o.make(x, label), YES);
                    due("its kind", o.node(x, 0, false), 2 + 4 * label + parts);
                    due("its last PART", o.node(x, parts, true), parts == 0 ? 0 : 32 + parts);
                }
            }
            due("LABEL -1", o.make(32, -1), REFUSED);
            due("LABEL 8", o.make(32, 8), REFUSED);
            due("a PART that is not in USE", o.part(40), REFUSED);
        });
    }

    private static void whatIsTheSame() {
        sentence("Two variables are the SAME if that follows from: x and y of a told x = y are;", () -> {
            OnceStore o = with(48);
            due("0 = 47", o.equal(0, 47), YES);
            due("same(47)", o.same(47), 0);
            due("no others", o.state(1), 47);
            OnceStore ints = with(2);
            ints.number(0, 3);
            ints.number(1, 3);
            due("one int does not make them the SAME", ints.same(1), 1);
        });
        sentence("each is with itself;", () -> {
            OnceStore o = with(48);
            for (int x = 0; x < 48; x++) {
                due("same(" + x + ")", o.same(x), x);
            }
            due("x = x", o.equal(5, 5), YES);
            due("as before", o.state(1), 48);
        });
        sentence("if x and y are (or x is y), and x was told to be a RECORD, and y one with the same LABEL and as many PARTS, "
                + "then the PARTS in the same places are;", () -> {
            sameParts(o -> o.equal(0, 1));
            OnceStore twice = with(8);
            make(twice, 0, 7, 2, 3, 4);
            make(twice, 0, 7, 5, 6, 7);
            due("told twice of one: first PARTS", twice.same(5), 2);
            due("second PARTS", twice.same(6), 3);
            due("third PARTS", twice.same(7), 4);
            due("no others", twice.state(1), 5);
            OnceStore first = with(8);
            first.equal(0, 1);
            make(first, 0, 7, 2, 3, 4);
            make(first, 1, 7, 5, 6, 7);
            due("told after x = y: third PARTS", first.same(7), 4);
            due("no others", first.state(1), 4);
            OnceStore alike = with(6);
            make(alike, 0, 0, 2);
            make(alike, 1, 0, 3);
            due("RECORDS of two that are not the SAME", alike.same(3), 3);
        });
        sentence("and by turning round and joining.", () -> {
            OnceStore o = with(8);
            o.equal(7, 3);
            due("turned round", o.same(7), 3);
            o.equal(5, 7);
            due("joined", o.same(5), 3);
            o.equal(1, 0);
            o.equal(5, 1);
            due("joined at both ends", o.same(7), 0);
            due("3 as well", o.same(3), 0);
            OnceStore long48 = with(48);
            for (int x = 47; x > 0; x--) {
                long48.equal(x, x - 1);
            }
            due("joined 47 times", long48.same(47), 0);
            due("one is left", long48.state(1), 1);
        });
    }

    private static void sameParts(Consumer<OnceStore> join) {
        for (int parts = 1; parts <= 3; parts++) {
            OnceStore o = with(8);
            for (int x = 0; x < 2; x++) {
                for (int i = 0; i < parts; i++) {
                    o.part(2 + 3 * x + i);
                }
                o.make(x, 3);
            }
            join.accept(o);
            for (int i = 0; i < 3; i++) {
                due("PART " + i + " of " + parts, o.same(5 + i), i < parts ? 2 + i : 5 + i);
            }
        }
        OnceStore deep = with(12);
        for (int x = 0; x < 2; x++) {
            make(deep, x, 0, 2 + x, 4 + x);
            make(deep, 2 + x, 1, 6 + x);
            make(deep, 6 + x, 2, 8 + x, 10 + x);
        }
        join.accept(deep);
        due("PARTS of PARTS of PARTS", deep.same(11), 10);
        due("so many are left", deep.state(1), 6);
    }

    private static void valuesAndFailing() {
        sentence("The VALUES of a variable are the ints and RECORDS that it, or one that is the SAME, was told to be;", () -> {
            OnceStore o = with(8);
            o.number(3, LOW);
            o.equal(3, 1);
            due("1 has the int of 3", o.node(1, 0, true), LOW);
            o.equal(5, 6);
            make(o, 6, 2, 7);
            due("5 has the RECORD of 6", o.node(5, 0, false), 2 + 8 + 1);
            due("so it has no int", o.number(5, 0), NO);
            OnceStore lesser = with(12);
            make(lesser, 10, 2, 7, 8, 9);
            make(lesser, 11, 1, 6);
            lesser.equal(0, 10);
            lesser.equal(11, 1);
            dueNumbers(lesser, 0, 0, 7, 8, 9);
            dueNodes(lesser, 0, 2 + 8 + 3, 0, 0, 0);
            dueNumbers(lesser, 1, 0, 6);
            lesser.number(9, 5);
            due("a lesser one has all of a RECORD", lesser.node(0, 3, true), 5);
        });
        sentence("without any it is FREE.", () -> {
            OnceStore o = with(4);
            due("a new one", o.node(0, 0, false), 0);
            o.equal(0, 1);
            make(o, 2, 0, 0);
            o.need(0);
            o.test(0, 0, 2);
            due("also the SAME as one, a PART, asked for, tested", o.node(0, 0, false), 0);
            due("FREE ones", o.state(2), 2);
            o.number(1, 0);
            due("not with the int 0", o.node(0, 0, false), 1);
            o.make(3, 0);
            due("not with a RECORD without PARTS", o.node(3, 0, false), 2);
            due("FREE ones", o.state(2), 0);
        });
        sentence("EQUATIONS FAIL if by them a variable has two different ints,", () -> {
            int[] ints = {LOW, LOW + 1, -1, 0, 1, HIGH};
            for (int v : ints) {
                for (int w : ints) {
                    OnceStore o = with(2);
                    o.number(0, v);
                    o.number(1, w);
                    due(v + " = " + w, o.equal(0, 1), v == w ? YES : NO);
                    due(v + " and " + w, o.number(0, w), v == w ? YES : NO);
                }
            }
            OnceStore far = with(8);
            far.number(0, 1);
            far.number(7, 2);
            for (int x = 0; x < 6; x++) {
                due("FREE ones between", far.equal(x, x + 1), YES);
            }
            due("from both ends", far.equal(7, 6), NO);
        });
        sentence("an int and a RECORD,", () -> {
            OnceStore o = with(3);
            o.number(0, 0);
            o.make(1, 0);
            due("RECORD behind int", o.make(0, 0), NO);
            due("int behind RECORD", o.number(1, 0), NO);
            due("equal(0, 1)", o.equal(0, 1), NO);
            due("equal(1, 0)", o.equal(1, 0), NO);
            // 2 is the code that node() has for a RECORD with LABEL 0 and without PARTS.
            o.number(2, 2);
            due("an int that looks like it", o.equal(1, 2), NO);
        });
        sentence("or two RECORDS with different LABELS or numbers of PARTS, as VALUES.", () -> {
            OnceStore o = with(33);
            for (int x = 0; x < 32; x++) {
                for (int i = 0; i < x % 4; i++) {
                    o.part(32);
                }
                o.make(x, x / 4);
            }
            for (int x = 1; x < 32; x++) {
                due("equal(0, " + x + ")", o.equal(0, x), NO);
                due("equal(" + x + ", " + (x - 1) + ")", o.equal(x, x - 1), NO);
            }
            due("make(1, 0) without a PART", o.make(1, 0), NO);
            due("make(0, 7)", o.make(0, 7), NO);
        });
        sentence("What would make them FAIL is not told.", Sentences::failingIsNotTold);
    }

    private static void failingIsNotTold() {
        for (int bad = 0; bad < 3; bad++) {
            int at = bad;
            Consumer<OnceStore> run = having(20, o -> {
                make(o, 0, 0, 2, 3, 4);
                make(o, 1, 0, 5, 6, 7);
                make(o, 2, 1, 8);
                make(o, 5, 1, 9);
                o.number(at == 0 ? 8 : 2 + at, 1);
                o.number(at == 0 ? 9 : 5 + at, 2);
                o.stream(0, 0);
            });
            OnceStore o = after(run);
            due("PART " + at + " does not fit", o.equal(0, 1), NO);
            due("nor the other way", o.equal(1, 0), NO);
            due("nor made anew", make(o, 0, 0, 5, 6, 7), NO);
            dueUnchanged("equal(0, 1)", run, s -> s.equal(0, 1));
            dueUnchanged("equal(1, 0)", run, s -> s.equal(1, 0));
            dueUnchanged("make(0, 0)", run, s -> make(s, 0, 0, 5, 6, 7));
            dueUnchanged("put(0, 1)", run, s -> s.put(0, 1));
            due("what is told next", o.equal(10, 11), YES);
            due("brings nothing of it", o.state(1), 19);
        }
    }

    private static void likeness() {
        sentence("ALIKE is the greatest relation for which this holds:", () -> {
            OnceStore o = with(48);
            for (int x = 0; x < 23; x++) {
                make(o, x, 1, (x + 1) % 23);
            }
            for (int x = 23; x < 48; x++) {
                make(o, x, 1, x == 47 ? 23 : x + 1);
            }
            due("a round of 23 and one of 25", o.compare(0, 23), YES);
            due("anywhere in them", o.compare(47, 11), YES);
            due("they are not the SAME", o.state(1), 48);
            OnceStore mixed = with(4);
            make(mixed, 0, 1, 1, 0);
            make(mixed, 1, 1, 0, 1);
            make(mixed, 2, 1, 2, 2);
            due("each in the other", mixed.compare(0, 2), YES);
            due("0 and 1", mixed.compare(1, 0), YES);
        });
        sentence("if x and y are ALIKE, they are the SAME,", () -> {
            OnceStore o = with(4);
            o.equal(0, 1);
            due("two FREE ones that are", o.compare(0, 1), YES);
            due("one with itself", o.compare(2, 2), YES);
            due("two FREE ones that are not", o.compare(2, 3), WAITS);
            due("0 and 3", o.compare(0, 3), WAITS);
        });
        sentence("or have one int as VALUES,", () -> {
            OnceStore o = with(6);
            o.number(0, LOW);
            o.number(1, LOW);
            o.number(2, HIGH);
            o.number(3, 0);
            o.number(4, 0);
            due("the least int", o.compare(0, 1), YES);
            due("0", o.compare(3, 4), YES);
            due("least and greatest", o.compare(0, 2), NO);
            due("0 and least", o.compare(3, 0), NO);
            due("0 and FREE", o.compare(3, 5), WAITS);
            due("FREE and 0", o.compare(5, 3), WAITS);
        });
        sentence("or have RECORDS with the same LABEL and as many PARTS, and the PARTS in the same places are ALIKE.", () -> {
            OnceStore o = with(16);
            o.make(0, 5);
            o.make(1, 5);
            due("no PARTS", o.compare(0, 1), YES);
            o.make(2, 6);
            due("another LABEL", o.compare(0, 2), NO);
            o.number(3, 1);
            o.number(4, 1);
            o.number(5, 2);
            make(o, 6, 5, 3, 3, 5);
            make(o, 7, 5, 4, 3, 5);
            make(o, 8, 5, 3, 3, 4);
            make(o, 9, 5, 3, 3);
            make(o, 10, 5, 3, 5, 3);
            due("three PARTS", o.compare(6, 7), YES);
            due("not the third one", o.compare(6, 8), NO);
            due("as many", o.compare(6, 9), NO);
            due("the same ones, in other places", o.compare(6, 10), NO);
            make(o, 11, 5, 3, 12, 5);
            due("one that is FREE", o.compare(6, 11), WAITS);
        });
        sentence("x and y are UNLIKE if x = y would make the EQUATIONS FAIL,", () -> {
            OnceStore o = with(12);
            o.number(0, 1);
            o.number(1, 2);
            make(o, 2, 0, 4, 4);
            make(o, 3, 0, 0, 1);
            due("4 would be two ints", o.compare(2, 3), NO);
            due("the other way round", o.compare(3, 2), NO);
            make(o, 5, 0, 4, 6);
            make(o, 7, 0, 6, 0);
            make(o, 8, 0, 1, 4);
            due("4 = 6 and 6 = 1: not yet", o.compare(5, 7), WAITS);
            due("4 = 1 and 6 = 4", o.compare(5, 8), WAITS);
            make(o, 9, 1, 5, 5);
            make(o, 10, 1, 7, 8);
            due("only both at once FAIL: 1 = 6 = 4 = 2", o.compare(9, 10), NO);
        });
        sentence("and OPEN if they are neither.", () -> {
            OnceStore o = with(6);
            due("two FREE ones", o.compare(0, 1), WAITS);
            make(o, 2, 0, 0);
            due("one and a RECORD with it within", o.compare(0, 2), WAITS);
            due("the other way round", o.compare(2, 0), WAITS);
            make(o, 3, 0, 3);
            due("an endless one, and one that may become so", o.compare(2, 3), WAITS);
            o.equal(0, 2);
            due("it has", o.compare(2, 3), YES);
        });
    }

    private static void testsAndTriggers() {
        sentence("TESTS 0..7: one of two variables WAITS as long as they are OPEN;", () -> {
            OnceStore o = with(6);
            due("TEST 0", o.test(0, 0, 1), WAITS);
            due("TEST 7", o.test(7, 1, 2), WAITS);
            due("TEST -1", o.test(-1, 0, 1), REFUSED);
            due("TEST 8", o.test(8, 0, 1), REFUSED);
            make(o, 0, 0, 3);
            due("a RECORD and a FREE one", o.tested(0), WAITS);
            make(o, 1, 0, 4);
            due("RECORDS with OPEN PARTS", o.tested(0), WAITS);
            o.number(3, 1);
            due("half", o.tested(0), WAITS);
            o.number(4, 1);
            due("not any more", o.tested(0), YES);
            due("TEST 7 still", o.tested(7), WAITS);
        });
        sentence("then it is YES (ALIKE) or NO (UNLIKE) for good.", () -> {
            OnceStore o = with(5);
            o.test(0, 0, 1);
            o.test(1, 0, 2);
            o.number(0, 3);
            o.number(1, 3);
            o.number(2, 4);
            due("ALIKE", o.tested(0), YES);
            due("UNLIKE", o.tested(1), NO);
            due("all go", o.clear(), 5);
            for (int i = 0; i < 5; i++) {
                o.variable();
            }
            o.number(0, 3);
            o.number(1, 4);
            o.equal(0, 2);
            due("YES for good, though its variables are others", o.tested(0), YES);
            due("NO for good", o.tested(1), NO);
            dueNotes(o, 0, 8 + 1);
        });
        sentence("One of one variable WAITS as long as that is FREE;", () -> {
            OnceStore o = with(4);
            due("FREE", o.test(3, 0, -1), WAITS);
            o.equal(0, 1);
            o.need(0);
            make(o, 2, 0, 0);
            due("FREE still", o.tested(3), WAITS);
        });
        sentence("then it is YES.", () -> {
            OnceStore o = with(4);
            o.test(0, 0, -1);
            o.test(1, 1, -1);
            o.test(2, 2, -1);
            o.number(0, 0);
            o.make(1, 0);
            o.equal(2, 1);
            due("by an int", o.tested(0), YES);
            due("by a RECORD", o.tested(1), YES);
            due("by one that is the SAME", o.tested(2), YES);
            due("at once", o.test(7, 0, -1), YES);
            dueNotes(o, 0, 1, 2, 7);
        });
        sentence("TRIGGERS 0..7 have two variables, x and y.", () -> {
            OnceStore o = with(18);
            for (int k = 0; k < 8; k++) {
                due("TRIGGER " + k, o.trigger(k, k, k + 8), true);
            }
            due("TRIGGER -1", o.trigger(-1, 16, 17), false);
            due("TRIGGER 8", o.trigger(8, 16, 17), false);
            for (int k = 0; k < 8; k++) {
                o.need(k + 8);
                due("y is not its x", o.same(k + 8), k + 8);
                o.need(k);
                due("x is", o.same(k + 8), k);
            }
            dueNotes(o, 16, 17, 18, 19, 20, 21, 22, 23);
        });
        sentence("A variable is NEEDED if it, or one that is the SAME, was asked for (need), or is that of a TEST of one "
                + "variable that WAITS.", () -> {
            OnceStore o = with(20);
            o.need(0);
            o.trigger(0, 0, 10);
            due("it was asked for", o.noted(-1), 1);
            o.equal(1, 2);
            o.need(2);
            o.trigger(1, 1, 11);
            due("one that is the SAME was", o.noted(-1), 2);
            o.test(0, 3, -1);
            o.trigger(2, 3, 12);
            due("that of a TEST", o.noted(-1), 3);
            o.test(1, 4, 5);
            o.trigger(3, 4, 13);
            o.trigger(4, 5, 13);
            due("not one of a TEST of two", o.noted(-1), 3);
            make(o, 6, 0, 7);
            o.need(6);
            o.test(2, 6, -1);
            o.trigger(5, 7, 14);
            due("not a PART of one", o.noted(-1), 4);
            due("that is the TEST", o.noted(3), 2);
            o.test(3, 8, -1);
            o.test(3, 9, -1);
            o.trigger(6, 8, 15);
            due("not one whose TEST was set anew", o.noted(-1), 4);
            OnceStore others = with(2);
            others.root(0, true);
            others.stream(0, 0);
            others.part(0);
            others.trigger(0, 0, 1);
            others.trigger(1, 1, 0);
            due("not a ROOT, an END, a drafted one, or that of a TRIGGER", others.noted(-1), 0);
        });
    }

    private static void settling() {
        sentence("SETTLING (behind each call that tells EQUATIONS", () -> {
            settlesBehind("equal", o -> o.equal(0, 9));
            settlesBehind("equal, turned round", o -> o.equal(9, 0));
            settlesBehind("number", o -> o.number(0, 1));
            settlesBehind("make", o -> o.make(0, 0));
            settlesBehind("put", o -> {
                o.stream(0, 0);
                o.put(0, 0);
            });
            OnceStore parts = with(10);
            parts.need(1);
            parts.trigger(0, 2, 3);
            make(parts, 0, 0, 1);
            due("before", parts.noted(-1), 0);
            make(parts, 0, 0, 2);
            dueNotes(parts, 16);
        });
        sentence("or sets a TEST, a TRIGGER or what is NEEDED), again and again:", () -> {
            OnceStore tests = with(4);
            tests.trigger(0, 0, 1);
            tests.trigger(1, 1, 2);
            tests.test(4, 0, -1);
            dueNotes(tests, 16, 17);
            OnceStore triggers = with(4);
            triggers.need(0);
            triggers.trigger(1, 1, 2);
            triggers.trigger(5, 0, 1);
            dueNotes(triggers, 21, 17);
            OnceStore needs = with(4);
            needs.trigger(1, 1, 2);
            needs.trigger(0, 2, 3);
            needs.need(1);
            dueNotes(needs, 17, 16);
            // By 5 = 0(6, 7) at once 0 gets an int, so that TRIGGER 0 does nothing, and 1 is NEEDED.
            OnceStore both = with(10);
            both.number(6, 1);
            both.need(7);
            both.trigger(0, 0, 2);
            both.trigger(1, 1, 3);
            both.test(0, 1, 3);
            make(both, 5, 0, 0, 1);
            make(both, 5, 0, 6, 7);
            dueNotes(both, 17, 0);
        });
        sentence("the TESTS that WAIT, by numbers, are decided if they are not to WAIT any more (that is NOTED);", () -> {
            OnceStore o = with(4);
            for (int t = 7; t >= 0; t--) {
                o.test(t, t % 2 == 0 ? 0 : 1, 2);
            }
            o.number(0, 5);
            o.number(1, 6);
            due("none yet", o.noted(-1), 0);
            o.number(2, 5);
            dueNotes(o, 0, 8 + 1, 2, 8 + 3, 4, 8 + 5, 6, 8 + 7);
            o.number(3, 1);
            due("none twice", o.noted(-1), 8);
        });
        sentence("then the least TRIGGER whose x is not FREE goes, and does nothing,", () -> {
            OnceStore o = with(8);
            o.number(0, 5);
            o.trigger(0, 0, 1);
            due("at once", o.same(1), 1);
            due("1 is FREE", o.node(1, 0, false), 0);
            o.need(0);
            o.trigger(0, 0, 1);
            due("though it is NEEDED", o.same(1), 1);
            o.trigger(1, 2, 3);
            o.make(2, 0);
            o.need(2);
            due("later", o.same(3), 3);
            dueNotes(o);
            o.root(4, true);
            due("they keep none", o.clear(), 7);
            OnceStore all = with(9);
            for (int k = 0; k < 8; k++) {
                all.trigger(k, 0, k + 1);
            }
            all.number(0, 5);
            due("all at once", all.clear(), 9);
            dueNotes(all);
        });
        sentence("or, if there is none, the least whose x is NEEDED goes (that is NOTED), and its x = y is told;", () -> {
            OnceStore o = with(12);
            o.number(8, 1);
            o.number(9, 2);
            o.trigger(6, 0, 8);
            o.trigger(3, 0, 9);
            o.need(0);
            due("the least one, though set later", o.node(0, 0, true), 2);
            dueNotes(o, 16 + 3);
            due("the other one did nothing", o.node(8, 0, true), 1);
            o.trigger(2, 1, 2);
            o.trigger(1, 3, 4);
            o.equal(1, 3);
            due("none is NEEDED", o.noted(-1), 1);
            o.need(3);
            dueNotes(o, 16 + 3, 16 + 1, 16 + 2);
            due("1, 2, 3 and 4", o.same(2), 1);
            due("1, 2, 3 and 4", o.same(4), 1);
        });
        sentence("until there is none of both.", () -> {
            OnceStore o = with(12);
            for (int k = 0; k < 8; k++) {
                o.trigger(k, 7 - k, 8 - k);
                o.test(k, 7 - k, 8);
            }
            o.number(9, 1);
            o.need(0);
            dueNotes(o, 23, 22, 21, 20, 19, 18, 17, 16, 0, 1, 2, 3, 4, 5, 6, 7);
            OnceStore between = with(12);
            between.test(0, 0, 2);
            between.test(1, 1, 3);
            between.trigger(0, 0, 1);
            between.trigger(1, 1, 2);
            between.trigger(2, 2, 3);
            between.need(0);
            dueNotes(between, 16, 17, 0, 18, 1);
        });
    }

    private static void settlesBehind(String what, Consumer<OnceStore> call) {
        OnceStore o = with(10);
        o.number(9, 1);
        o.test(1, 0, -1);
        call.accept(o);
        due(what + ": the TEST is decided", o.tested(1), YES);
        due(what + ": and NOTED", o.noted(0), 1);
    }

    private static void streamsAndTrials() {
        sentence("STREAMS 0..3 have an END, a variable, or are not there.", () -> {
            OnceStore o = with(5);
            for (int s = 0; s < 4; s++) {
                due("not there", o.end(s), REFUSED);
                due("set", o.stream(s, s + 1), true);
                due("its END", o.end(s), s + 1);
            }
            due("STREAM -1", o.stream(-1, 0), false);
            due("STREAM 4", o.stream(4, 0), false);
            due("0 is an END, too", o.stream(0, 0), true);
            due("so", o.end(0), 0);
            due("each has its own", o.end(1), 2);
        });
        sentence("A TRIAL (up to three, each within the one before) is kept,", () -> {
            OnceStore o = with(6);
            for (int i = 1; i <= 3; i++) {
                due("begin()", o.begin(), i);
                o.equal(0, i);
            }
            due("a fourth one", o.begin(), REFUSED);
            due("kept", o.finish(true), true);
            due("what was told in it stays", o.same(3), 0);
            due("taken back with the one around it", o.finish(false), true);
            due("3 is alone", o.same(3), 3);
            due("2 is alone", o.same(2), 2);
            due("1 is not", o.same(1), 0);
            due("kept", o.finish(true), true);
            due("1 is not", o.same(1), 0);
        });
        sentence("or all that the store holds (what was NOTED, too) becomes as it was when it began", Sentences::allIsTakenBack);
        sentence("(but for the PARTS that are drafted, and the TRIALS around it).", () -> {
            OnceStore o = with(4);
            o.part(0);
            o.begin();
            o.part(1);
            o.begin();
            o.part(2);
            due("the second one", o.finish(false), true);
            due("three are drafted", o.state(4), 3);
            due("one TRIAL is left", o.state(3), 1);
            due("the first one", o.finish(false), true);
            due("none is left", o.state(3), 0);
            due("make(3, 1)", o.make(3, 1), YES);
            dueNumbers(o, 3, 0, 0, 1, 2);
            o.part(0);
            o.begin();
            o.undraft();
            o.part(1);
            o.finish(false);
            due("as it was drafted last", o.make(2, 1), YES);
            dueNumbers(o, 2, 0, 1);
        });
    }

    private static void allIsTakenBack() {
        Consumer<OnceStore> run = having(14, o -> {
            o.number(6, 1);
            o.number(7, 2);
            o.trigger(0, 4, 5);
            o.test(0, 6, -1);
            o.test(1, 0, 1);
            o.test(2, 9, -1);
            o.stream(0, 0);
            o.stream(2, 10);
            o.root(2, true);
            o.need(8);
        });
        Consumer<OnceStore> changes = o -> {
            o.variable();
            o.equal(0, 1);
            o.number(2, 5);
            make(o, 3, 1, 3, 0);
            o.need(4);
            o.need(11);
            o.test(3, 6, 7);
            o.test(1, 12, -1);
            o.trigger(6, 12, 13);
            o.trigger(7, 9, 13);
            o.stream(1, 3);
            o.stream(2, -1);
            o.put(0, 1);
            o.root(2, false);
            o.root(3, true);
            o.copy(3);
        };
        dueUnchanged("a TRIAL that was taken back", run, o -> {
            o.begin();
            changes.accept(o);
            o.finish(false);
        });
        dueUnchanged("one with two within it", run, o -> {
            o.begin();
            o.begin();
            changes.accept(o);
            o.finish(true);
            o.begin();
            o.variable();
            o.finish(false);
            o.finish(false);
        });
        due("one that was kept is as if none had been", seen(run.andThen(o -> {
            o.begin();
            changes.accept(o);
            o.finish(true);
        })).equals(seen(run.andThen(changes))), true);
    }

    private static void newObject() {
        sentence("Nothing is in USE, told, asked, drafted or NOTED.", () -> {
            OnceStore o = new OnceStore();
            dueInUse(o);
            for (int what = 0; what < 5; what++) {
                due("state(" + what + ")", o.state(what), 0);
            }
            for (int t = 0; t < 8; t++) {
                due("tested(" + t + ")", o.tested(t), NOTHING);
            }
            for (int s = 0; s < 4; s++) {
                due("end(" + s + ")", o.end(s), REFUSED);
            }
            due("nothing NOTED", o.noted(-1), 0);
            due("nothing drafted", o.undraft(), 0);
            due("no TRIAL", o.finish(false), false);
            OnceStore full = with(48);
            for (int x = 0; x < 48; x++) {
                due("nothing told of " + x, full.node(x, 0, false), 0);
                due("no ROOT", full.root(x, false), false);
                full.trigger(0, x, x);
            }
            due("nothing asked", full.noted(-1), 0);
            due("nothing KEPT but by that TRIGGER", full.clear(), 47);
            OnceStore untriggered = with(48);
            due("nothing KEPT", untriggered.clear(), 48);
        });
    }

    private static void variable() {
        sentence("The least variable that is not in USE is, and FREE: its number;", () -> {
            OnceStore o = new OnceStore();
            for (int x = 0; x < 48; x++) {
                due("variable()", o.variable(), x);
                due("FREE", o.node(x, 0, false), 0);
            }
            int[] gone = {0, 13, 47};
            o.number(0, 1);
            make(o, 13, 1, 47);
            o.equal(47, 13);
            for (int x = 0; x < 48; x++) {
                if (x != 0 && x != 13 && x != 47) {
                    o.root(x, true);
                }
            }
            due("three go", o.clear(), 3);
            for (int x : gone) {
                due("the least one", o.variable(), x);
                due("FREE", o.node(x, 0, false), 0);
                due("alone", o.same(x), x);
            }
            due("none is left", o.variable(), FULL);
            OnceStore again = with(5);
            again.number(0, 9);
            make(again, 1, 3, 2, 3, 4);
            again.clear();
            for (int x = 0; x < 6; x++) {
                due("all anew", again.variable(), x);
            }
            dueNodes(again, 1, 0);
            again.number(1, 7);
            dueNumbers(again, 1, 7);
            due("no RECORD is left of it", again.depth(1), 0);
            again.make(0, 3);
            again.make(5, 3);
            due("no int is left of it", again.compare(0, 5), YES);
            dueNumbers(again, 0, 0);
            again.root(1, true);
            due("no PARTS are left of it", again.clear(), 5);
        });
        sentence("FULL if there is none.", () -> {
            OnceStore o = with(47);
            due("the last one", o.variable(), 47);
            due("none", o.variable(), FULL);
            due("none", o.variable(), FULL);
            due("still 48", o.state(0), 48);
            dueUnchanged("FULL", having(48, s -> { }), s -> s.variable());
            OnceStore trial = with(47);
            trial.begin();
            due("within a TRIAL", trial.variable(), 47);
            due("none", trial.variable(), FULL);
            trial.finish(false);
            due("after it", trial.variable(), 47);
        });
    }

    private static void equal() {
        sentence("Tells x = y: YES;", () -> {
            OnceStore o = with(48);
            due("two FREE ones", o.equal(47, 0), YES);
            due("the SAME", o.same(47), 0);
            due("once more", o.equal(47, 0), YES);
            due("with itself", o.equal(1, 1), YES);
            o.number(2, 1);
            o.number(3, 1);
            due("two with one int", o.equal(2, 3), YES);
            due("the SAME", o.same(3), 2);
            make(o, 4, 0, 4, 6);
            make(o, 5, 0, 5, 7);
            due("two endless ones", o.equal(5, 4), YES);
            due("the SAME", o.same(5), 4);
            due("what they hold", o.same(7), 6);
            make(o, 8, 0, 9);
            due("one with what it holds", o.equal(8, 9), YES);
            due("endless", o.depth(9), ENDLESS);
            OnceStore all = with(48);
            for (int x = 0; x < 48; x++) {
                make(all, x, 3, (x + 1) % 48, (x + 5) % 48, (x + 7) % 48);
            }
            due("all 48 at once", all.equal(46, 47), YES);
            due("one is left", all.state(1), 1);
        });
        sentence("NO if it would FAIL (nothing changes);", () -> {
            Consumer<OnceStore> run = having(12, o -> {
                o.number(0, 1);
                o.number(1, 2);
                make(o, 2, 0, 4, 5, 0);
                make(o, 3, 0, 6, 7, 1);
                o.test(0, 4, 6);
                o.trigger(0, 4, 8);
                o.need(6);
            });
            due("deep", after(run).equal(2, 3), NO);
            dueUnchanged("NO", run, o -> o.equal(2, 3));
            due("at once", after(run).equal(0, 1), NO);
            dueUnchanged("NO", run, o -> o.equal(0, 1));
        });
        sentence("REFUSED if one is not in USE.", () -> {
            OnceStore o = with(2);
            due("the second one", o.equal(0, 2), REFUSED);
            due("the first one", o.equal(2, 0), REFUSED);
            due("both", o.equal(2, 2), REFUSED);
            due("-1", o.equal(-1, 0), REFUSED);
            due("48", o.equal(0, 48), REFUSED);
        });
    }

    private static void number() {
        sentence("Tells x = the int v, likewise.", () -> {
            int[] ints = {LOW, -1, 0, 1, HIGH};
            for (int v : ints) {
                OnceStore o = with(3);
                due("YES", o.number(1, v), YES);
                due("the int", o.node(1, 0, true), v);
                due("once more", o.number(1, v), YES);
                due("one more", o.number(1, v + 1), NO);
                due("NO changes nothing", o.node(1, 0, true), v);
                due("it is told of the SAME", o.equal(0, 1), YES);
                due("NO", o.number(0, v - 1), NO);
                due("not in USE", o.number(3, v), REFUSED);
                due("-1", o.number(-1, v), REFUSED);
                due("48", o.number(48, v), REFUSED);
            }
            Consumer<OnceStore> run = having(3, o -> {
                o.make(0, 0);
                o.test(0, 1, -1);
            });
            due("a RECORD", after(run).number(0, 0), NO);
            dueUnchanged("NO", run, o -> o.number(0, 0));
        });
    }

    private static void part() {
        sentence("Drafts another PART: how many there are;", () -> {
            OnceStore o = with(48);
            due("first", o.part(47), 1);
            due("second", o.part(0), 2);
            due("third, one that is drafted", o.part(47), 3);
            due("drafted", o.state(4), 3);
            o.make(0, 2);
            due("in that order: 47", o.node(0, 1, true), 47);
            due("then 0 itself", o.node(0, 2, false), 2 + 8 + 3);
        });
        sentence("REFUSED if there are 3,", () -> {
            OnceStore o = with(2);
            o.part(0);
            o.part(0);
            o.part(0);
            due("a fourth one", o.part(1), REFUSED);
            due("three are drafted", o.state(4), 3);
            o.make(1, 0);
            due("after make", o.part(1), 1);
        });
        sentence("or x is not in USE.", () -> {
            OnceStore o = with(2);
            due("2", o.part(2), REFUSED);
            due("-1", o.part(-1), REFUSED);
            due("48", o.part(48), REFUSED);
            due("none drafted", o.state(4), 0);
            o.clear();
            due("gone", o.part(1), REFUSED);
        });
    }

    private static void make() {
        sentence("Tells x = the RECORD with this LABEL and the drafted PARTS, likewise;", () -> {
            OnceStore o = with(10);
            due("no PARTS", o.make(0, 0), YES);
            due("so", o.node(0, 0, false), 2);
            due("three PARTS", make(o, 1, 7, 1, 0, 2), YES);
            due("so", o.node(1, 0, false), 33);
            due("itself", o.node(1, 1, false), 33);
            due("once more, with another one", make(o, 1, 7, 3, 0, 2), YES);
            due("that is the SAME then", o.same(3), 1);
            due("NO: other PARTS", make(o, 1, 7, 1, 1, 2), NO);
            due("NO: fewer", make(o, 1, 7, 1, 0), NO);
            due("REFUSED: not in USE", o.make(10, 0), REFUSED);
            due("REFUSED: -1", o.make(-1, 0), REFUSED);
            due("REFUSED: 48", o.make(48, 0), REFUSED);
        });
        sentence("REFUSED also for another LABEL,", () -> {
            OnceStore o = with(2);
            due("-1", o.make(0, -1), REFUSED);
            due("8", o.make(0, 8), REFUSED);
            due("LOW", o.make(0, LOW), REFUSED);
            due("HIGH", o.make(0, HIGH), REFUSED);
            due("FREE still", o.node(0, 0, false), 0);
            due("7 is the last one", o.make(0, 7), YES);
            due("0 is the first one", o.make(1, 0), YES);
        });
        sentence("or if a drafted one is not in USE any more.", () -> {
            for (int at = 0; at < 3; at++) {
                OnceStore o = with(3);
                o.root(0, true);
                for (int i = 0; i < 3; i++) {
                    o.part(i == at ? 2 : 0);
                }
                o.clear();
                due("the one at " + at + " is gone", o.make(0, 0), REFUSED);
                due("all are drafted still", o.state(4), 3);
            }
            OnceStore back = with(1);
            back.begin();
            back.part(back.variable());
            back.finish(false);
            due("taken back", back.make(0, 0), REFUSED);
            due("it is drafted still", back.undraft(), 1);
            due("none is drafted", back.make(0, 0), YES);
        });
        sentence("No PARTS are drafted then (unless it is REFUSED).", () -> {
            OnceStore o = with(4);
            due("YES", make(o, 0, 0, 1, 2), YES);
            due("none", o.state(4), 0);
            due("NO", make(o, 0, 0, 1), NO);
            due("none", o.state(4), 0);
            due("REFUSED", make(o, 4, 0, 1), REFUSED);
            due("one", o.state(4), 1);
            due("REFUSED", make(o, 3, 8, 2), REFUSED);
            due("two", o.state(4), 2);
            due("and they are made later", o.make(3, 0), YES);
            dueNumbers(o, 3, 0, 1, 2);
        });
    }

    private static void undraft() {
        sentence("The drafted PARTS go: how many there were.", () -> {
            for (int parts = 0; parts <= 3; parts++) {
                OnceStore o = with(2);
                for (int i = 0; i < parts; i++) {
                    o.part(1);
                }
                due("undraft()", o.undraft(), parts);
                due("once more", o.undraft(), 0);
                due("none is left", o.state(4), 0);
                o.make(0, 0);
                due("none is made", o.node(0, 0, false), 2);
            }
        });
    }

    private static void compare() {
        sentence("YES if x and y are ALIKE,", () -> {
            OnceStore o = with(48);
            due("47 with itself", o.compare(47, 47), YES);
            o.make(0, 0);
            o.make(47, 0);
            due("0 and 47", o.compare(0, 47), YES);
            due("47 and 0", o.compare(47, 0), YES);
        });
        sentence("NO if UNLIKE,", () -> {
            OnceStore o = with(4);
            o.make(0, 0);
            o.make(1, 1);
            due("two LABELS", o.compare(0, 1), NO);
            o.number(2, 0);
            due("RECORD and int", o.compare(0, 2), NO);
        });
        sentence("WAITS if OPEN;", () -> {
            Consumer<OnceStore> run = having(8, o -> {
                make(o, 0, 0, 1, 2);
                make(o, 3, 0, 4, 5);
                o.number(1, 1);
            });
            OnceStore o = after(run);
            due("so", o.compare(0, 3), WAITS);
            due("and again", o.compare(3, 0), WAITS);
            dueUnchanged("compare", run, s -> s.compare(0, 3));
        });
        sentence("REFUSED if one is not in USE.", () -> {
            OnceStore o = with(1);
            due("the second one", o.compare(0, 1), REFUSED);
            due("the first one", o.compare(1, 0), REFUSED);
            due("both", o.compare(1, 1), REFUSED);
            due("-1", o.compare(0, -1), REFUSED);
            due("48", o.compare(48, 0), REFUSED);
        });
    }

    private static void test() {
        sentence("Sets TEST t, whatever it was: of x and y,", () -> {
            OnceStore o = with(8);
            due("not set before", o.test(0, 0, 1), WAITS);
            due("it WAITED before", o.test(0, 2, 3), WAITS);
            o.equal(0, 1);
            due("the older one is gone", o.tested(0), WAITS);
            o.equal(2, 3);
            due("YES", o.tested(0), YES);
            due("it was YES before", o.test(0, 4, 5), WAITS);
            o.number(4, 1);
            o.number(5, 2);
            due("NO", o.tested(0), NO);
            due("it was NO before", o.test(0, 6, 7), WAITS);
            due("of one and itself", o.test(0, 6, 6), YES);
            dueNotes(o, 0, 8, 0);
        });
        sentence("or (y -1) of x:", () -> {
            OnceStore o = with(3);
            due("of FREE 0", o.test(7, 0, -1), WAITS);
            o.trigger(0, 0, 1);
            due("0 is NEEDED", o.noted(0), 16);
            due("of two, now", o.test(7, 0, 2), WAITS);
            o.trigger(0, 0, 2);
            due("0 is not NEEDED any more", o.noted(-1), 1);
            due("-2 is not -1", o.test(7, 0, -2), REFUSED);
        });
        sentence("what tested(t) is then;", () -> {
            OnceStore o = with(6);
            o.number(0, 1);
            o.number(1, 1);
            o.number(2, 2);
            due("YES at once", o.test(1, 0, 1), YES);
            due("NO at once", o.test(2, 0, 2), NO);
            due("WAITS", o.test(3, 0, 3), WAITS);
            for (int t = 1; t <= 3; t++) {
                due("tested(" + t + ")", o.tested(t), t);
            }
            o.trigger(0, 4, 0);
            due("after its TRIGGER went", o.test(4, 4, -1), YES);
            dueNotes(o, 1, 8 + 2, 16, 4);
        });
        sentence("REFUSED, and nothing changes, if there is no such TEST, or one is not in USE.", () -> {
            Consumer<OnceStore> run = having(4, o -> {
                o.test(0, 0, 1);
                o.test(7, 2, -1);
            });
            int[][] calls = {{-1, 0, 1}, {8, 0, 1}, {LOW, 0, -1}, {HIGH, 0, -1}, {0, 4, 1}, {0, 0, 4}, {0, 4, -1},
                {7, -1, -1}, {7, -1, 0}, {7, 0, 48}, {7, 48, 0}, {7, 0, -2}};
            for (int[] c : calls) {
                String what = "test(" + c[0] + ", " + c[1] + ", " + c[2] + ")";
                due(what, after(run).test(c[0], c[1], c[2]), REFUSED);
                dueUnchanged(what, run, o -> o.test(c[0], c[1], c[2]));
            }
        });
    }

    private static void tested() {
        sentence("YES, NO or WAITS;", () -> {
            OnceStore o = with(4);
            o.number(0, 1);
            o.number(1, 2);
            o.test(0, 0, 0);
            o.test(1, 0, 1);
            o.test(7, 2, 3);
            due("YES", o.tested(0), YES);
            due("NO", o.tested(1), NO);
            due("WAITS", o.tested(7), WAITS);
        });
        sentence("NOTHING if it was not set,", () -> {
            OnceStore o = with(4);
            o.test(3, 0, 0);
            due("before it", o.tested(2), NOTHING);
            due("behind it", o.tested(4), NOTHING);
            due("the first one", o.tested(0), NOTHING);
            due("the last one", o.tested(7), NOTHING);
            o.begin();
            o.test(0, 0, 0);
            o.finish(false);
            due("set, and taken back", o.tested(0), NOTHING);
        });
        sentence("REFUSED if there is no such TEST.", () -> {
            int[] none = {-1, 8, LOW, HIGH};
            for (int t : none) {
                due("tested(" + t + ")", new OnceStore().tested(t), REFUSED);
            }
        });
    }

    private static void trigger() {
        sentence("Sets TRIGGER k, whatever it was: true;", () -> {
            OnceStore o = with(8);
            due("the first one", o.trigger(0, 0, 1), true);
            due("the last one", o.trigger(7, 2, 3), true);
            due("anew", o.trigger(0, 4, 5), true);
            o.need(0);
            due("the older one is gone", o.same(1), 1);
            o.need(4);
            due("the newer one went", o.same(5), 4);
            due("one that has gone, anew", o.trigger(0, 6, 7), true);
            o.need(6);
            due("it went", o.same(7), 6);
            due("x and y are one", o.trigger(1, 6, 6), true);
            dueNotes(o, 16, 16, 17);
        });
        sentence("false, and nothing changes, if there is none, or one is not in USE.", () -> {
            Consumer<OnceStore> run = having(6, o -> {
                o.trigger(0, 0, 1);
                o.trigger(7, 2, 3);
                o.need(4);
            });
            int[][] calls = {{-1, 4, 5}, {8, 4, 5}, {LOW, 4, 5}, {HIGH, 4, 5}, {0, 6, 5}, {0, 4, 6}, {7, -1, 5},
                {7, 4, -1}, {7, 48, 5}, {7, 4, 48}};
            for (int[] c : calls) {
                String what = "trigger(" + c[0] + ", " + c[1] + ", " + c[2] + ")";
                due(what, after(run).trigger(c[0], c[1], c[2]), false);
                dueUnchanged(what, run, o -> o.trigger(c[0], c[1], c[2]));
            }
        });
    }

    private static void need() {
        sentence("Asks for x: true;", () -> {
            OnceStore o = with(48);
            o.trigger(0, 47, 46);
            due("47", o.need(47), true);
            dueNotes(o, 16);
            due("once more", o.need(47), true);
            o.number(0, 1);
            due("one with an int", o.need(0), true);
            o.make(1, 0);
            due("one with a RECORD", o.need(1), true);
            due("it stays asked for", o.trigger(5, 46, 45), true);
            dueNotes(o, 16, 21);
        });
        sentence("false if it is not in USE.", () -> {
            int[] none = {-1, 2, 47, 48, LOW, HIGH};
            for (int x : none) {
                due("need(" + x + ")", with(2).need(x), false);
            }
            OnceStore o = new OnceStore();
            due("need(0)", o.need(0), false);
            o.variable();
            o.trigger(0, 0, 0);
            due("it is not asked for when it comes", o.noted(-1), 0);
        });
    }

    private static void noted() {
        sentence("What was NOTED k-th (0 first;", () -> {
            OnceStore o = with(2);
            for (int t = 7; t >= 0; t--) {
                o.test(t, 0, 0);
            }
            for (int k = 0; k < 8; k++) {
                due("noted(" + k + ")", o.noted(k), 7 - k);
            }
            due("noted(8)", o.noted(8), REFUSED);
        });
        sentence("the first 60 are kept):", () -> {
            OnceStore o = with(2);
            for (int i = 0; i < 59; i++) {
                o.test(i % 7, 0, 0);
            }
            due("noted(58)", o.noted(58), 58 % 7);
            due("noted(59), not yet", o.noted(59), REFUSED);
            o.test(7, 0, 0);
            due("noted(59)", o.noted(59), 7);
            due("noted(60), not yet", o.noted(60), REFUSED);
            o.test(6, 0, 0);
            due("noted(60), not kept", o.noted(60), REFUSED);
            for (int i = 0; i < 100; i++) {
                o.test(5, 0, 0);
            }
            for (int k = 0; k < 60; k++) {
                due("noted(" + k + ")", o.noted(k), k == 59 ? 7 : k % 7);
            }
            due("noted(60)", o.noted(60), REFUSED);
            due("noted(100)", o.noted(100), REFUSED);
        });
        sentence("TEST t YES t, NO 8 + t, TRIGGER k 16 + k;", () -> {
            OnceStore o = with(20);
            o.number(0, 1);
            o.number(1, 2);
            o.need(2);
            for (int i = 0; i < 8; i++) {
                o.test(i, 0, 0);
                o.test(i, 0, 1);
                o.trigger(i, 2, 3 + i);
            }
            for (int i = 0; i < 8; i++) {
                due("TEST " + i + " YES", o.noted(3 * i), i);
                due("TEST " + i + " NO", o.noted(3 * i + 1), 8 + i);
                due("TRIGGER " + i, o.noted(3 * i + 2), 16 + i);
            }
        });
        sentence("k = -1: how many there were;", () -> {
            OnceStore o = with(1);
            due("none", o.noted(-1), 0);
            for (int i = 1; i <= 130; i++) {
                o.test(0, 0, 0);
                due("so many", o.noted(-1), i);
            }
            o.begin();
            o.test(0, 0, 0);
            o.finish(false);
            due("not what was taken back", o.noted(-1), 130);
        });
        sentence("REFUSED if there is none.", () -> {
            int[] none = {-2, 1, 59, 60, LOW, HIGH};
            for (int k : none) {
                OnceStore o = with(1);
                o.test(0, 0, 0);
                due("noted(" + k + ")", o.noted(k), REFUSED);
            }
            due("noted(0)", new OnceStore().noted(0), REFUSED);
        });
    }

    private static void stream() {
        sentence("STREAM s has the END x (x -1: it is not there): true;", () -> {
            OnceStore o = with(48);
            due("first STREAM, last variable", o.stream(0, 47), true);
            due("last STREAM, first variable", o.stream(3, 0), true);
            due("its END", o.end(0), 47);
            due("its END", o.end(3), 0);
            due("another END", o.stream(0, 1), true);
            due("its END", o.end(0), 1);
            due("-1", o.stream(0, -1), true);
            due("not there", o.end(0), REFUSED);
            due("-1 once more", o.stream(0, -1), true);
            due("two STREAMS", o.stream(1, 0), true);
            due("with one END", o.end(1), 0);
            due("an END with an int", o.number(1, 1) == YES && o.stream(2, 1), true);
        });
        sentence("false, and nothing changes, if s is none, or x not in USE.", () -> {
            Consumer<OnceStore> run = having(3, o -> {
                o.stream(0, 1);
                o.stream(3, 2);
            });
            int[][] calls = {{-1, 0}, {4, 0}, {-1, -1}, {4, -1}, {LOW, 0}, {HIGH, 0}, {0, 3}, {3, -2}, {3, 48},
                {0, LOW}, {0, HIGH}, {1, 47}};
            for (int[] c : calls) {
                String what = "stream(" + c[0] + ", " + c[1] + ")";
                due(what, after(run).stream(c[0], c[1]), false);
                dueUnchanged(what, run, o -> o.stream(c[0], c[1]));
            }
        });
    }

    private static void put() {
        sentence("Puts x into a STREAM: the least variable z that is not in USE is;", () -> {
            OnceStore o = with(6);
            o.stream(0, 5);
            o.root(0, true);
            o.root(2, true);
            due("1, 3 and 4 go", o.clear(), 3);
            int[] next = {1, 3, 4, 6, 7};
            for (int z : next) {
                due("put", o.put(0, 0), YES);
                due("z", o.end(0), z);
                due("it is FREE", o.node(z, 0, false), 0);
            }
            dueInUse(o, 0, 1, 2, 3, 4, 5, 6, 7);
        });
        sentence("END = the RECORD with LABEL 7 and PARTS x, z is told, and z is its END then: YES.", () -> {
            OnceStore o = with(2);
            o.stream(3, 0);
            due("put(3, 1)", o.put(3, 1), YES);
            dueNodes(o, 0, 32, 0, 0);
            dueNumbers(o, 0, 0, 1, 2);
            due("its END", o.end(3), 2);
            due("its END itself", o.put(3, 2), YES);
            due("its END", o.end(3), 3);
            due("within itself", o.depth(2), ENDLESS);
            o.stream(1, 0);
            due("into one that has been put into", o.put(1, 1), YES);
            due("z is the SAME as what is there", o.same(4), 2);
            due("but the END is z", o.end(1), 4);
            due("to the other STREAM nothing happens", o.end(3), 3);
        });
        sentence("REFUSED if there is no such STREAM", () -> {
            Consumer<OnceStore> run = having(2, o -> o.stream(1, 0));
            int[] none = {-1, 0, 2, 3, 4, LOW, HIGH};
            for (int s : none) {
                due("put(" + s + ", 1)", after(run).put(s, 1), REFUSED);
                dueUnchanged("put(" + s + ", 1)", run, o -> o.put(s, 1));
            }
        });
        sentence("or x is not in USE,", () -> {
            Consumer<OnceStore> run = having(2, o -> o.stream(1, 0));
            int[] none = {-1, 2, 47, 48, LOW, HIGH};
            for (int x : none) {
                due("put(1, " + x + ")", after(run).put(1, x), REFUSED);
                dueUnchanged("put(1, " + x + ")", run, o -> o.put(1, x));
            }
        });
        sentence("else FULL if there is no such variable,", () -> {
            OnceStore o = with(47);
            o.stream(0, 0);
            due("the last one", o.put(0, 1), YES);
            due("its END", o.end(0), 47);
            due("none", o.put(0, 1), FULL);
            due("its END still", o.end(0), 47);
            due("REFUSED before FULL: no STREAM", o.put(1, 1), REFUSED);
            due("REFUSED before FULL: no variable", o.put(0, 48), REFUSED);
            o.number(47, 1);
            due("FULL before NO", o.put(0, 1), FULL);
            dueUnchanged("FULL", having(48, s -> s.stream(0, 0)), s -> s.put(0, 1));
        });
        sentence("else NO if it would FAIL (nothing changes with these).", () -> {
            Consumer<OnceStore> run = having(10, o -> {
                o.stream(0, 0);
                o.number(0, 1);
                o.stream(1, 2);
                o.make(2, 7);
                o.stream(2, 3);
                make(o, 3, 6, 4, 5);
                o.stream(3, 6);
                make(o, 6, 7, 7, 8);
                o.number(7, 1);
                o.number(9, 2);
            });
            due("an int", after(run).put(0, 9), NO);
            due("no PARTS", after(run).put(1, 9), NO);
            due("another LABEL", after(run).put(2, 9), NO);
            due("another first PART", after(run).put(3, 9), NO);
            for (int s = 0; s < 4; s++) {
                int stream = s;
                dueUnchanged("put(" + s + ", 9)", run, o -> o.put(stream, 9));
            }
            OnceStore o = after(run);
            o.put(3, 9);
            due("the variable is still to be had", o.variable(), 10);
        });
    }

    private static void end() {
        sentence("The END of a STREAM;", () -> {
            OnceStore o = with(48);
            o.equal(46, 47);
            o.stream(0, 0);
            o.stream(3, 47);
            due("0", o.end(0), 0);
            due("47, though 46 is the SAME", o.end(3), 47);
        });
        sentence("REFUSED if it is not there.", () -> {
            int[] none = {-1, 0, 3, 4, LOW, HIGH};
            for (int s : none) {
                due("end(" + s + ")", new OnceStore().end(s), REFUSED);
            }
            OnceStore o = with(1);
            o.stream(2, 0);
            o.stream(2, -1);
            due("not any more", o.end(2), REFUSED);
        });
    }

    private static void begin() {
        sentence("A TRIAL begins: how many there are;", () -> {
            OnceStore o = with(1);
            for (int i = 1; i <= 3; i++) {
                due("begin()", o.begin(), i);
                due("state(3)", o.state(3), i);
            }
            o.finish(true);
            due("the third one again", o.begin(), 3);
            o.finish(false);
            o.finish(false);
            due("the second one again", o.begin(), 2);
        });
        sentence("REFUSED if there are 3.", () -> {
            OnceStore o = with(2);
            o.begin();
            o.begin();
            o.begin();
            o.equal(0, 1);
            due("a fourth one", o.begin(), REFUSED);
            due("three still", o.state(3), 3);
            due("the third one", o.finish(false), true);
            due("is as it began", o.same(1), 1);
        });
    }

    private static void finish() {
        sentence("The latest TRIAL is kept, or taken back: true;", () -> {
            for (int kept = 0; kept < 8; kept++) {
                OnceStore o = with(4);
                for (int i = 1; i <= 3; i++) {
                    o.begin();
                    o.number(i, i);
                }
                boolean[] stays = {false, true, true, true};
                for (int i = 3; i >= 1; i--) {
                    boolean keep = (kept >> i - 1 & 1) == 1;
                    due("finish", o.finish(keep), true);
                    due("state(3)", o.state(3), i - 1);
                    for (int j = i; j <= 3; j++) {
                        stays[j] &= keep;
                    }
                    for (int j = 1; j <= 3; j++) {
                        due("what was told in " + j, o.node(j, 0, false), stays[j] ? 1 : 0);
                    }
                }
            }
        });
        sentence("false if there is none.", () -> {
            OnceStore o = with(2);
            due("finish(true)", o.finish(true), false);
            due("finish(false)", o.finish(false), false);
            o.begin();
            o.equal(0, 1);
            o.finish(true);
            due("none any more", o.finish(false), false);
            due("nothing changes", o.same(1), 0);
        });
    }

    private static void copy() {
        sentence("Makes a copy of x: of x, and all that is in it (a PART of a RECORD of it, and so on),", () -> {
            OnceStore o = with(8);
            make(o, 0, 1, 1, 2, 3);
            make(o, 2, 2, 4);
            make(o, 4, 3);
            o.number(3, LOW);
            o.number(5, 1);
            due("the copy", o.copy(0), 8);
            due("five are new, not what is not in it", o.state(0), 13);
            dueNodes(o, 8, 2 + 4 + 3, 0, 2 + 8 + 1, 2 + 12, 1);
            dueNumbers(o, 8, 0, 9, 0, 0, LOW);
            due("an int alone", o.copy(3), 13);
            due("so", o.node(13, 0, true), LOW);
            due("a RECORD without PARTS", o.copy(4), 14);
            due("so", o.node(14, 0, false), 2 + 12);
            due("what it was of is as before", o.node(0, 1, true), 1);
        });
        sentence("one new variable for all that are ALIKE,", () -> {
            OnceStore o = with(10);
            o.number(1, 5);
            o.number(2, 5);
            make(o, 0, 0, 1, 2, 1);
            due("the copy", o.copy(0), 10);
            due("one for both ints", o.state(0), 12);
            make(o, 3, 1, 4, 5);
            make(o, 4, 1, 3, 5);
            due("the copy", o.copy(4), 12);
            due("one for both endless ones, one for FREE 5", o.state(0), 14);
            due("within itself", o.node(12, 40, false), 2 + 4 + 2);
            due("ALIKE by what it holds", o.different(12), 2);
            make(o, 6, 2, 7, 8);
            due("the copy", o.copy(6), 14);
            due("two FREE ones are two", o.state(0), 17);
            o.equal(7, 8);
            due("the copy", o.copy(6), 17);
            due("the SAME are one", o.state(0), 19);
        });
        sentence("each with the least number not in USE, in the order in which they are met:", () -> {
            OnceStore o = with(12);
            make(o, 1, 0, 5, 3, 7);
            o.root(1, true);
            due("0, 2, 4, 6 and 8 to 11 go", o.clear(), 8);
            due("the copy", o.copy(1), 0);
            dueNumbers(o, 0, 0, 2, 4, 6);
            dueNumbers(o, 1, 0, 5, 3, 7);
            dueInUse(o, 0, 1, 2, 3, 4, 5, 6, 7);
        });
        sentence("first x, then, of a RECORD, each PART with all that is in it before the next one;", () -> {
            OnceStore o = with(10);
            make(o, 0, 0, 1, 2, 3);
            make(o, 1, 1, 4, 5);
            make(o, 4, 2, 6);
            make(o, 2, 1, 7, 5);
            due("the copy", o.copy(0), 10);
            long[] kinds = {5, 8, 11, 0, 0, 8, 0, 0};
            for (int i = 0; i < kinds.length; i++) {
                due("met as " + i, o.node(10 + i, 0, false), kinds[i]);
            }
            // 0, 1, 4, 6, 5, 2, 7, 3 get 10 to 17.
            dueNumbers(o, 10, 0, 0, 0, 13, 14, 0, 16, 14, 17);
        });
        sentence("one that is ALIKE to one that was met is not gone into.", () -> {
            OnceStore o = with(10);
            make(o, 0, 0, 1, 2, 3);
            make(o, 1, 1, 4);
            make(o, 2, 1, 5);
            o.number(4, 1);
            o.number(5, 1);
            due("the copy", o.copy(0), 10);
            due("0, 1 with 2, 4 with 5, 3", o.state(0), 14);
            due("3 is the last one", o.node(10, 5, true), 13);
            OnceStore rounds = with(48);
            for (int x = 0; x < 47; x++) {
                make(rounds, x, 1, (x + 1) % 47, (x + 2) % 47, (x + 3) % 47);
            }
            rounds.root(0, true);
            due("47 goes", rounds.clear(), 1);
            due("47 that are ALIKE into one", rounds.copy(5), 47);
            due("which is in itself", rounds.compare(47, 5), YES);
            due("and is not the SAME", rounds.same(47), 47);
        });
        sentence("The new ones are FREE, or get the int, or a RECORD of new ones, by EQUATIONS.", () -> {
            OnceStore o = with(10);
            make(o, 0, 7, 1, 2, 0);
            o.number(2, HIGH);
            o.need(1);
            o.root(0, true);
            o.test(0, 1, -1);
            o.trigger(0, 3, 4);
            due("the copy", o.copy(0), 10);
            due("a RECORD", o.node(10, 0, false), 33);
            due("FREE", o.node(11, 0, false), 0);
            due("the int", o.node(12, 0, true), HIGH);
            due("of new ones", o.number(11, 5), YES);
            due("not of old ones", o.node(1, 0, false), 0);
            due("the int stays", o.number(12, 5), NO);
            due("the RECORD stays", o.make(10, 7), NO);
            due("nothing is NOTED", o.noted(-1), 0);
            due("it is no ROOT", o.root(10, false), false);
            due("a FREE one", o.copy(1), 13);
            o.trigger(1, 13, 5);
            due("is not asked for", o.noted(-1), 0);
            due("and not tested", o.number(13, 1) == YES && o.tested(0) == WAITS, true);
        });
        sentence("Answers that of x;", () -> {
            OnceStore o = with(4);
            due("4", o.copy(3), 4);
            due("5", o.copy(0), 5);
            o.equal(5, 4);
            due("6, of one that is the SAME as a lesser one", o.copy(5), 6);
        });
        sentence("FULL, and nothing changes, if there are not so many;", () -> {
            for (int left = 0; left <= 4; left++) {
                Consumer<OnceStore> run = having(48 - left, o -> {
                    make(o, 0, 0, 1, 2);
                    o.number(1, 4);
                });
                OnceStore o = after(run);
                due("three, " + left + " left", o.copy(0), left < 3 ? FULL : 48 - left);
                due("in USE", o.state(0), left < 3 ? 48 - left : 51 - left);
                if (left < 3) {
                    dueUnchanged("FULL", run, s -> s.copy(0));
                }
            }
            OnceStore half = chain(24);
            due("24 of 48", half.copy(0), 24);
            due("all are in USE", half.state(0), 48);
            due("depth", half.depth(24), 23);
            due("none is left", half.copy(47), FULL);
            due("25 of 48", chain(25).copy(0), FULL);
            OnceStore wide = with(24);
            for (int x = 0; x < 24; x++) {
                make(wide, x, x == 23 ? 1 : 0, (x + 1) % 24, 0, 0);
            }
            due("24 of 48, with three PARTS each", wide.copy(0), 24);
            due("the last one is ALIKE to what it is of", wide.compare(47, 23), YES);
        });
        sentence("REFUSED if x is not in USE.", () -> {
            int[] none = {-1, 2, 47, 48, LOW, HIGH};
            for (int x : none) {
                due("copy(" + x + ")", with(2).copy(x), REFUSED);
            }
            due("copy(48) of a full store", with(48).copy(48), REFUSED);
        });
    }

    private static void different() {
        sentence("How many there are that are not ALIKE, of x and all that is in it;", () -> {
            OnceStore o = with(10);
            due("a FREE one", o.different(0), 1);
            o.number(1, 1);
            due("an int", o.different(1), 1);
            o.make(2, 0);
            due("a RECORD without PARTS", o.different(2), 1);
            make(o, 3, 0, 3, 3, 3);
            due("one in itself", o.different(3), 1);
            o.number(4, 1);
            o.make(5, 0);
            make(o, 6, 1, 1, 4, 2);
            make(o, 7, 1, 6, 5, 8);
            due("ints and RECORDS that are ALIKE", o.different(6), 3);
            due("with one that is FREE", o.different(7), 5);
            due("48 that are all different", chain(48).different(0), 48);
            due("the last one", chain(48).different(47), 1);
            OnceStore round = with(48);
            for (int x = 0; x < 48; x++) {
                make(round, x, x == 47 ? 1 : 0, (x + 1) % 48);
            }
            due("a round of 48 that are all different", round.different(20), 48);
            OnceStore same = with(48);
            for (int x = 0; x < 48; x++) {
                make(same, x, 0, (x + 1) % 48);
            }
            due("a round of 48 that are all ALIKE", same.different(20), 1);
            OnceStore wide = with(48);
            for (int x = 0; x < 48; x++) {
                make(wide, x, x == 47 ? 1 : 0, (x + 1) % 48, 0, 0);
            }
            due("all different, with three PARTS each", wide.different(0), 48);
        });
        sentence("REFUSED likewise.", () -> {
            int[] none = {-1, 2, 47, 48, LOW, HIGH};
            for (int x : none) {
                due("different(" + x + ")", with(2).different(x), REFUSED);
            }
        });
    }

    private static void depth() {
        sentence("How many RECORDS lie within each other in x, x the outermost, at most", () -> {
            OnceStore o = with(10);
            o.make(0, 0);
            due("without PARTS", o.depth(0), 1);
            make(o, 1, 0, 2);
            due("with a FREE PART", o.depth(1), 1);
            make(o, 3, 0, 2, 0, 1);
            due("with two RECORDS beside each other", o.depth(3), 2);
            make(o, 4, 0, 3, 2, 2);
            make(o, 5, 0, 2, 4, 3);
            make(o, 6, 0, 2, 3, 5);
            due("the first PART is the deepest", o.depth(4), 3);
            due("the second one", o.depth(5), 4);
            due("the third one", o.depth(6), 5);
            make(o, 7, 0, 6, 6, 6);
            due("the same one thrice is not endless", o.depth(7), 6);
            due("47", chain(48).depth(0), 47);
            OnceStore all = chain(48);
            all.make(47, 0);
            due("48", all.depth(0), 48);
            OnceStore upward = with(48);
            for (int x = 0; x < 48; x++) {
                if (x > 0) {
                    upward.part(x - 1);
                }
                upward.make(x, 0);
            }
            due("48, the other way", upward.depth(47), 48);
        });
        sentence("(0 if it is none);", () -> {
            OnceStore o = with(2);
            due("FREE", o.depth(0), 0);
            o.number(0, 5);
            due("an int", o.depth(0), 0);
            OnceStore back = with(2);
            back.begin();
            make(back, 0, 0, 0);
            make(back, 1, 0, 0);
            due("endless, within a TRIAL", back.depth(1), ENDLESS);
            back.finish(false);
            due("none after it", back.depth(1), 0);
            due("none after it", back.depth(0), 0);
            make(back, 1, 0, 0);
            due("one around none", back.depth(1), 1);
        });
        sentence("ENDLESS if there are as many as one likes;", () -> {
            OnceStore o = with(8);
            make(o, 0, 0, 1, 2, 0);
            due("in itself", o.depth(0), ENDLESS);
            make(o, 3, 0, 4);
            make(o, 4, 0, 3);
            due("in one that is in it", o.depth(3), ENDLESS);
            make(o, 5, 0, 6, 4);
            due("what is in it is", o.depth(5), ENDLESS);
            due("not what is beside", o.depth(6), 0);
            make(o, 6, 0, 7);
            due("not what is beside", o.depth(6), 1);
            o.equal(7, 6);
            due("by an EQUATION", o.depth(6), ENDLESS);
            OnceStore round = with(48);
            for (int x = 0; x < 48; x++) {
                make(round, x, 0, (x + 1) % 48);
            }
            due("a round of 48", round.depth(0), ENDLESS);
            OnceStore below = with(48);
            for (int x = 0; x < 47; x++) {
                make(below, x, 0, x + 1);
            }
            make(below, 47, 0, 47);
            due("at the lowest of 48", below.depth(0), ENDLESS);
        });
        sentence("REFUSED likewise.", () -> {
            int[] none = {-1, 2, 47, 48, LOW, HIGH};
            for (int x : none) {
                due("depth(" + x + ")", with(2).depth(x), REFUSED);
            }
        });
    }

    private static void matches() {
        sentence("MEETINGS are x with y, and, if u meets v, and both have RECORDS with the same LABEL and as many PARTS, the "
                + "PARTS in the same places.", () -> {
            OnceStore o = with(20);
            o.number(0, 1);
            o.number(1, 2);
            for (int at = 0; at < 3; at++) {
                make(o, 2 + at, 0, at == 0 ? 0 : 10, at == 1 ? 0 : 10, at == 2 ? 0 : 10);
                make(o, 5 + at, 0, at == 0 ? 1 : 10, at == 1 ? 1 : 10, at == 2 ? 1 : 10);
                due("PARTS at " + at + " do not fit", o.matches(2 + at, 5 + at), NO);
            }
            due("in other places", o.matches(2, 7), NO);
            make(o, 8, 1, 2);
            make(o, 9, 1, 5);
            due("PARTS of PARTS do not fit", o.matches(8, 9), NO);
            make(o, 11, 1, 2);
            due("they fit", o.matches(8, 11), YES);
            OnceStore rounds = with(48);
            for (int x = 0; x < 48; x++) {
                make(rounds, x, 0, x < 23 ? (x + 1) % 23 : x == 47 ? 23 : x + 1);
            }
            due("rounds of 23 and 25: all 575 meet", rounds.matches(0, 23), YES);
            OnceStore late = with(48);
            for (int x = 0; x < 46; x++) {
                int next = x < 23 ? (x + 1) % 23 : x == 45 ? 23 : x + 1;
                make(late, x, 0, next, x == 22 || x == 45 ? 47 : 46);
            }
            late.number(46, 1);
            late.number(47, 2);
            due("rounds of 23 that fit", late.matches(0, 23), YES);
            due("and that do not, one further on", late.matches(0, 24), NO);
            OnceStore often = with(46);
            for (int x = 0; x < 44; x++) {
                // Each lies thrice in the one before: ways down are far more than there are pairs.
                int next = x == 21 ? 44 : x == 43 ? 45 : x + 1;
                make(often, x, 0, next, next, next);
            }
            due("22 deep, with one that is FREE", often.matches(0, 22), YES);
            often.number(44, 1);
            due("with one that does not fit", often.matches(0, 22), NO);
            often.number(45, 1);
            due("with one that does", often.matches(0, 22), YES);
        });
        sentence("YES if of each meeting u with v u is FREE,", () -> {
            OnceStore o = with(6);
            o.number(1, 0);
            make(o, 2, 0, 2);
            due("with FREE", o.matches(0, 3), YES);
            due("with itself", o.matches(0, 0), YES);
            due("with an int", o.matches(0, 1), YES);
            due("with a RECORD", o.matches(0, 2), YES);
            due("not an int with FREE", o.matches(1, 0), NO);
            due("not a RECORD with FREE", o.matches(2, 0), NO);
        });
        sentence("or both have the same int,", () -> {
            OnceStore o = with(6);
            o.number(0, LOW);
            o.number(1, LOW);
            o.number(2, HIGH);
            o.number(3, 2);
            o.make(4, 0);
            due("the same", o.matches(0, 1), YES);
            due("another one", o.matches(0, 2), NO);
            due("an int with a RECORD", o.matches(3, 4), NO);
        });
        sentence("or such RECORDS,", () -> {
            OnceStore o = with(6);
            o.make(0, 7);
            o.make(1, 7);
            o.make(2, 6);
            make(o, 3, 7, 4);
            o.number(5, 30);
            due("no PARTS", o.matches(0, 1), YES);
            due("another LABEL", o.matches(0, 2), NO);
            due("more PARTS", o.matches(0, 3), NO);
            due("fewer PARTS", o.matches(3, 0), NO);
            due("a RECORD with an int", o.matches(0, 5), NO);
        });
        sentence("and if, for each FREE u, all v that u, or one that is the SAME as u, meets are ALIKE (one v may be met by "
                + "several u);", () -> {
            OnceStore o = with(20);
            o.number(1, 5);
            o.number(2, 5);
            o.number(3, 6);
            make(o, 4, 0, 0, 0, 0);
            make(o, 5, 0, 1, 2, 1);
            make(o, 6, 0, 1, 2, 3);
            make(o, 7, 0, 0, 8, 9);
            due("0 meets ints that are ALIKE", o.matches(4, 5), YES);
            due("the third one is not", o.matches(4, 6), NO);
            due("different u", o.matches(7, 6), YES);
            due("one v, several u", o.matches(7, 4), YES);
            due("one u, several FREE v", o.matches(4, 7), NO);
            o.equal(8, 9);
            due("8, that is the SAME as 9, meets 5 and 6", o.matches(7, 6), NO);
            due("5 and 5", o.matches(7, 5), YES);
            make(o, 10, 1, 0, 12);
            make(o, 11, 1, 10, 0);
            due("0 meets what lies around it", o.matches(10, 11), YES);
            make(o, 13, 2, 0, 14);
            make(o, 14, 3, 0);
            make(o, 15, 2, 2, 16);
            make(o, 16, 3, 3);
            due("in another depth", o.matches(13, 15), NO);
            make(o, 17, 3, 1);
            make(o, 18, 2, 2, 17);
            due("in another depth", o.matches(13, 18), YES);
            // FREE 0 meets itself and 9: each fits alone, but the two are OPEN.
            make(o, 19, 2, 9, 14);
            due("OPEN is not ALIKE", o.matches(13, 19), NO);
        });
        sentence("else NO;", () -> {
            Consumer<OnceStore> run = having(4, o -> {
                make(o, 0, 0, 2, 2);
                make(o, 1, 0, 2, 3);
            });
            due("so", after(run).matches(0, 1), NO);
            due("not the other way", after(run).matches(1, 0), YES);
            dueUnchanged("matches", run, o -> o.matches(0, 1));
        });
        sentence("REFUSED if one is not in USE.", () -> {
            OnceStore o = with(1);
            due("the second one", o.matches(0, 1), REFUSED);
            due("the first one", o.matches(1, 0), REFUSED);
            due("-1", o.matches(-1, 0), REFUSED);
            due("48", o.matches(0, 48), REFUSED);
        });
    }

    private static void root() {
        sentence("x is a ROOT from now on, or not: true;", () -> {
            OnceStore o = with(48);
            due("the first one", o.root(0, true), true);
            due("the last one", o.root(47, true), true);
            due("all others go", o.clear(), 46);
            due("not any more", o.root(47, false), true);
            due("one goes", o.clear(), 1);
            dueInUse(o, 0);
            o.variable();
            o.equal(0, 1);
            due("1 is none, though it is the SAME", o.root(1, true), true);
        });
        sentence("false if it is not in USE,", () -> {
            int[] none = {-1, 2, 47, 48, LOW, HIGH};
            for (int x : none) {
                due("root(" + x + ", true)", with(2).root(x, true), false);
                due("root(" + x + ", false)", with(2).root(x, false), false);
            }
        });
        sentence("or it was so.", () -> {
            OnceStore o = with(2);
            due("it was none", o.root(0, false), false);
            o.root(0, true);
            due("it was one", o.root(0, true), false);
            due("it still is", o.clear(), 1);
            o.root(0, false);
            due("it was none", o.root(0, false), false);
            due("it still is none", o.clear(), 1);
            o.variable();
            due("a new one is none", o.root(0, false), false);
        });
    }

    private static void clear() {
        sentence("KEPT are the ROOTS, ENDS of STREAMS, variables of TESTS that WAIT and of TRIGGERS,", () -> {
            OnceStore o = with(48);
            o.root(0, true);
            o.root(47, true);
            o.stream(0, 1);
            o.stream(3, 46);
            o.test(0, 2, 3);
            o.test(7, 45, -1);
            o.trigger(0, 4, 5);
            o.trigger(7, 43, 44);
            due("37 go", o.clear(), 37);
            dueInUse(o, 0, 1, 2, 3, 4, 5, 43, 44, 45, 46, 47);
            for (int i = 0; i < 8; i++) {
                OnceStore tests = with(10);
                tests.test(i, 4, 6);
                due("all but those of TEST " + i, tests.clear(), 8);
                dueInUse(tests, 4, 6);
                OnceStore triggers = with(10);
                triggers.trigger(i, 4, 6);
                due("all but those of TRIGGER " + i, triggers.clear(), 8);
                dueInUse(triggers, 4, 6);
                OnceStore streams = with(10);
                due("STREAM " + i, streams.stream(i, 4), i < 4);
                due("all but its END", streams.clear(), i < 4 ? 9 : 10);
            }
        });
        sentence("all that are the SAME as one that is KEPT,", () -> {
            OnceStore o = with(10);
            o.equal(0, 1);
            o.equal(1, 2);
            o.root(2, true);
            o.equal(3, 4);
            o.stream(0, 3);
            o.equal(5, 6);
            due("five go", o.clear(), 5);
            dueInUse(o, 0, 1, 2, 3, 4);
        });
        sentence("and the PARTS of the RECORDS that one has as VALUES.", () -> {
            OnceStore o = with(20);
            make(o, 10, 0, 9, 8, 7);
            make(o, 8, 0, 6);
            o.equal(6, 5);
            make(o, 5, 0, 4);
            make(o, 4, 0, 10);
            make(o, 10, 0, 3, 8, 7);
            o.root(10, true);
            make(o, 2, 0, 10);
            due("all that lies in it is KEPT", o.clear(), 12);
            dueInUse(o, 3, 4, 5, 6, 7, 8, 9, 10);
            OnceStore down = chain(48);
            down.root(0, true);
            due("47 deep", down.clear(), 0);
            OnceStore up = with(48);
            for (int x = 1; x < 48; x++) {
                make(up, x, 0, x - 1);
            }
            up.root(47, true);
            due("47 deep, the other way", up.clear(), 0);
            up.root(47, false);
            up.root(20, true);
            due("what it lies in is not KEPT", up.clear(), 27);
        });
        sentence("All others are in USE no more, with all that was told of them, and are not asked for.", () -> {
            OnceStore o = with(20);
            o.test(0, 1, 1);
            o.test(1, 1, 2);
            o.equal(1, 2);
            o.stream(0, 3);
            o.stream(0, -1);
            o.trigger(0, 4, 5);
            o.need(4);
            o.root(6, true);
            o.root(6, false);
            o.part(7);
            o.number(8, 1);
            make(o, 9, 0, 8);
            due("TESTS that are decided, and the like, keep none", o.clear(), 20);
            dueInUse(o);
            for (int x = 0; x < 20; x++) {
                due("variable()", o.variable(), x);
                due("FREE", o.node(x, 0, false), 0);
                due("alone", o.same(x), x);
                o.trigger(7, x, x);
            }
            due("none is asked for", o.noted(-1), 3);
            for (int x = 0; x < 8; x++) {
                OnceStore decided = with(8);
                decided.number(x, 1);
                decided.number(7 - x, 2);
                decided.test(0, x, 7 - x);
                due("a TEST of " + x + " that is decided", decided.clear(), 8);
            }
            OnceStore kept = with(3);
            kept.need(0);
            kept.root(0, true);
            kept.clear();
            kept.trigger(0, 0, 0);
            dueNotes(kept, 16);
        });
        sentence("Answers how many;", () -> {
            due("none", new OnceStore().clear(), 0);
            due("48", with(48).clear(), 48);
            OnceStore o = with(3);
            o.root(1, true);
            due("two", o.clear(), 2);
            due("none more", o.clear(), 0);
            due("one is left", o.state(0), 1);
        });
        sentence("REFUSED within a TRIAL.", () -> {
            OnceStore o = with(3);
            for (int i = 1; i <= 3; i++) {
                o.begin();
                due("within " + i, o.clear(), REFUSED);
                due("nothing changes", o.state(0), 3);
            }
            o.finish(true);
            o.finish(false);
            due("within one still", o.clear(), REFUSED);
            o.finish(true);
            due("within none", o.clear(), 3);
        });
    }

    private static void same() {
        sentence("The least variable that is the SAME;", () -> {
            OnceStore o = with(48);
            due("itself", o.same(47), 47);
            o.equal(47, 30);
            due("30", o.same(47), 30);
            due("30", o.same(30), 30);
            o.equal(47, 40);
            due("30", o.same(40), 30);
            o.equal(40, 0);
            due("0", o.same(47), 0);
            due("0", o.same(0), 0);
            due("0", o.same(30), 0);
        });
        sentence("REFUSED if x is not in USE.", () -> {
            int[] none = {-1, 2, 47, 48, LOW, HIGH};
            for (int x : none) {
                due("same(" + x + ")", with(2).same(x), REFUSED);
            }
            OnceStore o = with(2);
            o.clear();
            due("gone", o.same(1), REFUSED);
        });
    }

    private static void node() {
        sentence("Node k (0..40; 0 the outermost) of x written out:", () -> {
            OnceStore o = with(3);
            make(o, 0, 3, 0, 1);
            for (int k = 0; k <= 40; k++) {
                due("all to the left: " + k, o.node(0, k, false), 2 + 12 + 2);
            }
            due("node 41", o.node(0, 41, false), NO_NODE);
            OnceStore right = with(3);
            make(right, 0, 3, 1, 0);
            for (int k = 0; k <= 40; k++) {
                due("all to the right: " + k, right.node(0, k, false), k % 2 == 0 ? 2 + 12 + 2 : 0);
            }
            OnceStore three = with(3);
            make(three, 0, 7, 0, 0, 0);
            due("the widest one", three.node(0, 40, false), 33);
        });
        sentence("first x itself, then, of a RECORD, each of its PARTS from the left, each with all that is in it before the "
                + "next one,", () -> {
            OnceStore o = with(9);
            make(o, 0, 0, 1, 2, 3);
            make(o, 1, 1, 4, 5);
            make(o, 3, 2, 6);
            dueNodes(o, 0, 5, 8, 0, 0, 0, 11, 0);
            dueNumbers(o, 0, 0, 0, 4, 5, 2, 0, 6);
        });
        sentence("also what was written out before:", () -> {
            OnceStore o = with(5);
            make(o, 0, 0, 1, 1);
            make(o, 1, 1, 2, 2);
            dueNumbers(o, 0, 0, 0, 2, 2, 0, 2, 2);
            OnceStore wide = with(4);
            make(wide, 0, 0, 1, 1, 1);
            make(wide, 1, 0, 2, 2, 2);
            make(wide, 2, 0, 3, 3, 3);
            due("40 nodes: the last one", wide.node(0, 39, true), 3);
            due("none behind it", wide.node(0, 40, true), NO_NODE);
        });
        sentence("FREE 0, an int 1, a RECORD 2 + 4 LABEL + how many PARTS;", () -> {
            OnceStore o = with(6);
            o.number(1, HIGH);
            o.make(2, 0);
            make(o, 3, 0, 0, 0, 0);
            o.make(4, 7);
            make(o, 5, 7, 0, 0, 0);
            long[] kinds = {0, 1, 2, 5, 30, 33};
            for (int x = 0; x < 6; x++) {
                due("node(" + x + ", 0, false)", o.node(x, 0, false), kinds[x]);
            }
        });
        sentence("or, if that is asked for, its number: what same() is, the int, 0.", () -> {
            OnceStore o = with(8);
            o.equal(5, 3);
            o.number(1, LOW);
            o.number(2, HIGH);
            make(o, 4, 7, 5, 1, 2);
            due("FREE: the least one", o.node(5, 0, true), 3);
            due("FREE: itself", o.node(6, 0, true), 6);
            due("the least int", o.node(1, 0, true), LOW);
            due("the greatest int", o.node(2, 0, true), HIGH);
            dueNumbers(o, 4, 0, 3, LOW, HIGH);
            o.equal(7, 4);
            due("a RECORD, whatever same() is", o.node(7, 0, true), 0);
        });
        sentence("-10000000000 if there is no such node, or x is not in USE.", () -> {
            OnceStore o = with(3);
            make(o, 0, 0, 1, 1);
            o.number(2, 1);
            int[] none = {-1, 3, 40, 41, LOW, HIGH};
            for (int k : none) {
                due("node(0, " + k + ", false)", o.node(0, k, false), -10000000000L);
                due("node(0, " + k + ", true)", o.node(0, k, true), -10000000000L);
            }
            due("an int has one", o.node(2, 1, false), NO_NODE);
            due("a FREE one has one", o.node(1, 1, true), NO_NODE);
            int[] noVariable = {-1, 3, 47, 48, LOW, HIGH};
            for (int x : noVariable) {
                due("node(" + x + ", 0, false)", o.node(x, 0, false), NO_NODE);
                due("node(" + x + ", 0, true)", o.node(x, 0, true), NO_NODE);
            }
        });
    }

    private static void state() {
        sentence("What 0: how many variables are in USE;", () -> {
            OnceStore o = new OnceStore();
            for (int i = 0; i <= 48; i++) {
                due("state(0)", o.state(0), i);
                o.variable();
            }
            due("state(0)", o.state(0), 48);
            o.clear();
            due("state(0)", o.state(0), 0);
        });
        sentence("1: how many that are not the SAME;", () -> {
            OnceStore o = with(48);
            for (int x = 1; x < 48; x++) {
                due("state(1)", o.state(1), 49 - x);
                o.equal(x, x - 1);
            }
            due("state(1)", o.state(1), 1);
            OnceStore ints = with(2);
            ints.number(0, 1);
            ints.number(1, 1);
            due("ALIKE is not the SAME", ints.state(1), 2);
            ints.clear();
            due("none", ints.state(1), 0);
        });
        sentence("2: how many of these are FREE;", () -> {
            OnceStore o = with(6);
            due("six", o.state(2), 6);
            o.equal(0, 1);
            due("five", o.state(2), 5);
            o.number(0, 0);
            due("four", o.state(2), 4);
            o.make(2, 0);
            due("three", o.state(2), 3);
            o.equal(3, 4);
            o.equal(4, 5);
            due("one", o.state(2), 1);
            o.equal(5, 2);
            due("none", o.state(2), 0);
        });
        sentence("3: how many TRIALS;", () -> {
            OnceStore o = with(1);
            for (int i = 0; i <= 3; i++) {
                due("state(3)", o.state(3), i);
                o.begin();
            }
            due("state(3)", o.state(3), 3);
            o.finish(false);
            due("state(3)", o.state(3), 2);
            o.finish(true);
            due("state(3)", o.state(3), 1);
        });
        sentence("4: how many PARTS are drafted;", () -> {
            OnceStore o = with(1);
            for (int i = 0; i <= 3; i++) {
                due("state(4)", o.state(4), i);
                o.part(0);
            }
            due("state(4)", o.state(4), 3);
            o.clear();
            due("also one that is gone", o.state(4), 3);
            o.undraft();
            due("state(4)", o.state(4), 0);
        });
        sentence("REFUSED for others.", () -> {
            int[] none = {-1, 5, LOW, HIGH};
            for (int what : none) {
                due("state(" + what + ")", with(1).state(what), REFUSED);
            }
        });
    }

    private static void orderAndLimits() {
        sentence("Where nothing else is said, a call that is refused (by a code below 0 that is named, or by false) changes "
                + "nothing.", () -> {
            // Refusals goes through all of them; here is one of each code.
            Consumer<OnceStore> run = having(48, o -> {
                o.part(0);
                o.stream(0, 1);
                o.begin();
            });
            dueUnchanged("REFUSED", run, o -> o.make(0, 9));
            dueUnchanged("FULL", run, o -> o.put(0, 0));
            dueUnchanged("ENDLESS", run.andThen(o -> make(o, 0, 0, 0)), o -> o.depth(0));
            dueUnchanged("false", run, o -> o.root(0, false));
            dueUnchanged("no node", run, o -> o.node(0, 41, false));
        });
        sentence("make that answers NO: no EQUATION is told, and no PARTS are drafted then.", () -> {
            Consumer<OnceStore> run = having(10, o -> {
                make(o, 0, 0, 1, 2);
                o.number(2, 1);
                o.number(4, 2);
                o.test(0, 1, 3);
            });
            OnceStore o = after(run);
            due("NO", make(o, 0, 0, 3, 4), NO);
            due("no PARTS are drafted", o.state(4), 0);
            due("the first PARTS are not the SAME", o.same(3), 3);
            dueUnchanged("NO", run, s -> make(s, 0, 0, 3, 4));
        });
        sentence("A TRIGGER that has gone is not there any more (as if it had not been set).", () -> {
            OnceStore o = with(8);
            o.trigger(0, 0, 1);
            o.need(0);
            o.number(2, 1);
            o.trigger(1, 2, 3);
            due("they keep none", o.clear(), 8);
            for (int i = 0; i < 8; i++) {
                o.variable();
            }
            for (int i = 0; i < 8; i++) {
                o.need(i);
            }
            dueNotes(o, 16);
            due("0 and 1 are not told again", o.same(1), 1);
        });
        sentence("clear: variables that stay in USE are the SAME as before, also where that followed from what was told of "
                + "others that are gone.", () -> {
            OnceStore o = with(12);
            make(o, 5, 0, 1, 3);
            make(o, 5, 0, 2, 4);
            o.equal(6, 1);
            make(o, 0, 1, 7);
            o.equal(0, 8);
            make(o, 8, 1, 9);
            for (int x = 1; x < 10; x++) {
                if (x != 5 && x != 8) {
                    o.root(x, true);
                }
            }
            due("0, 5, 8, 10 and 11 go", o.clear(), 5);
            due("2", o.same(2), 1);
            due("6", o.same(6), 1);
            due("4", o.same(4), 3);
            due("9", o.same(9), 7);
            due("so many are left", o.state(1), 3);
            due("0 again", o.variable(), 0);
            due("it is alone", o.same(0), 0);
            o.number(2, 5);
            due("1 has the int of 2", o.node(1, 0, true), 5);
        });
        sentence("make looks at the drafted PARTS when it is called: one whose number is in USE again counts as in USE.", () -> {
            OnceStore o = with(3);
            o.root(0, true);
            o.part(2);
            o.part(1);
            o.clear();
            due("both are gone", o.make(0, 0), REFUSED);
            due("1 is in USE again", o.variable(), 1);
            due("2 is gone still", o.make(0, 0), REFUSED);
            due("2 is in USE again", o.variable(), 2);
            due("both count", o.make(0, 0), YES);
            dueNumbers(o, 0, 0, 2, 1);
            OnceStore back = with(1);
            back.begin();
            back.part(back.variable());
            back.finish(false);
            due("taken back", back.make(0, 0), REFUSED);
            back.variable();
            due("in USE again", back.make(0, 0), YES);
        });
        sentence("NEEDED is also a variable that is the SAME as that of a TEST of one variable that WAITS.", () -> {
            OnceStore o = with(8);
            o.trigger(0, 1, 2);
            o.test(0, 0, -1);
            due("not yet", o.noted(-1), 0);
            o.equal(0, 1);
            dueNotes(o, 16);
            o.trigger(1, 2, 3);
            dueNotes(o, 16, 17);
            o.number(3, 1);
            due("decided", o.tested(0), YES);
            o.trigger(2, 4, 5);
            due("4 is not NEEDED", o.noted(-1), 3);
        });
    }

    private static void terms() {
        variablesAndEquations();
        whatIsTheSame();
        valuesAndFailing();
        likeness();
        testsAndTriggers();
        settling();
        streamsAndTrials();
    }

    public static void main(String[] args) throws IOException {
        readDocument();
        chapter("What it is", Sentences::whatItIs);
        chapter("Terms", Sentences::terms);
        chapter("Promise 1: A new object", Sentences::newObject);
        chapter("Promise 2: variable", Sentences::variable);
        chapter("Promise 3: equal", Sentences::equal);
        chapter("Promise 4: number", Sentences::number);
        chapter("Promise 5: part", Sentences::part);
        chapter("Promise 6: make", Sentences::make);
        chapter("Promise 7: undraft", Sentences::undraft);
        chapter("Promise 8: compare", Sentences::compare);
        chapter("Promise 9: test", Sentences::test);
        chapter("Promise 10: tested", Sentences::tested);
        chapter("Promise 11: trigger", Sentences::trigger);
        chapter("Promise 12: need", Sentences::need);
        chapter("Promise 13: noted", Sentences::noted);
        chapter("Promise 14: stream", Sentences::stream);
        chapter("Promise 15: put", Sentences::put);
        chapter("Promise 16: end", Sentences::end);
        chapter("Promise 17: begin", Sentences::begin);
        chapter("Promise 18: finish", Sentences::finish);
        chapter("Promise 19: copy", Sentences::copy);
        chapter("Promise 20: different", Sentences::different);
        chapter("Promise 21: depth", Sentences::depth);
        chapter("Promise 22: matches", Sentences::matches);
        chapter("Promise 23: root", Sentences::root);
        chapter("Promise 24: clear", Sentences::clear);
        chapter("Promise 25: same", Sentences::same);
        chapter("Promise 26: node", Sentences::node);
        chapter("Promise 27: state", Sentences::state);
        chapter("Promise 28: Order and limits", Sentences::orderAndLimits);
        tellAndExit();
    }
}
