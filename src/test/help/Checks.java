import java.util.ArrayList;
import java.util.List;
import java.util.function.Consumer;
import java.util.function.Function;

/**
 * What the tests share: answers held against those that are due, and all that calls can show of a store.
 * Nothing is promised of an object after its 512th call, so none gets more: a long look is made on many
 * objects that had the same calls, a part of it on each (those calls are to be 120 at most).
 */
class Checks {
    static final int REFUSED = -1, FULL = -2, ENDLESS = -3, NOTHING = 0, YES = 1, NO = 2, WAITS = 3;
    static final int LOW = Integer.MIN_VALUE, HIGH = Integer.MAX_VALUE;
    static final long NO_NODE = -10000000000L;

    private static int wrong = 0;
    private static String place = "";

    static void at(String where) {
        place = where;
    }

    static void due(String what, long got, long want) {
        if (got != want) {
            wrong++;
            System.out.println(place + ": " + what + ": " + got + ", due is " + want);
        }
    }

    static void due(String what, boolean got, boolean want) {
        due(what, got ? 1 : 0, want ? 1 : 0);
    }

    static boolean anyWrong() {
        return wrong > 0;
    }

    static void tellAndExit() {
        System.out.println(wrong == 0 ? "all answers are as due" : wrong + " answers are not as due");
        if (wrong != 0) {
            System.exit(1);
        }
    }

    static int bit(boolean b) {
        return b ? 1 : 0;
    }

    static OnceStore with(int variables) {
        OnceStore o = new OnceStore();
        for (int i = 0; i < variables; i++) {
            o.variable();
        }
        return o;
    }

    static int make(OnceStore o, int x, int label, int... parts) {
        for (int p : parts) {
            o.part(p);
        }
        return o.make(x, label);
    }

    /** Holds the calls of more to change nothing after those of run, in whatever can be seen or comes later. */
    static void dueUnchanged(String what, Consumer<OnceStore> run, Consumer<OnceStore> more) {
        due(what + " changed nothing", seen(run.andThen(more)).equals(seen(run)), true);
    }

    /** All that calls can show of a store that had those of run: also who is a ROOT, asked for, waited for. */
    static List<String> seen(Consumer<OnceStore> run) {
        List<String> all = new ArrayList<>();
        for (Function<OnceStore, String> look : LOOKS) {
            OnceStore o = new OnceStore();
            run.accept(o);
            all.add(look.apply(o));
        }
        return all;
    }

    private static final List<Function<OnceStore, String>> LOOKS = looks();

    private static List<Function<OnceStore, String>> looks() {
        List<Function<OnceStore, String>> looks = new ArrayList<>();
        looks.add(Checks::counts);
        for (int x = 0; x < 48; x += 4) {
            int from = x;
            looks.add(o -> nodes(o, from, from + 4));
            looks.add(o -> pairs(o, from, from + 4));
        }
        looks.add(Checks::sizes);
        looks.add(Checks::roots);
        looks.add(Checks::triggers);
        looks.add(Checks::asked);
        looks.add(Checks::waiting);
        looks.add(Checks::joined);
        looks.add(Checks::trials);
        looks.add(Checks::drafted);
        looks.add(o -> bit(o.finish(true)) + " " + o.clear() + ": " + counts(o));
        return looks;
    }

    private static String counts(OnceStore o) {
        StringBuilder seen = new StringBuilder();
        for (int i = 0; i < 5; i++) {
            seen.append(o.state(i)).append(' ');
        }
        for (int t = 0; t < 8; t++) {
            seen.append(o.tested(t)).append(' ');
        }
        for (int s = 0; s < 4; s++) {
            seen.append(o.end(s)).append(' ');
        }
        for (int x = 0; x < 48; x++) {
            seen.append(o.same(x)).append(' ');
        }
        int count = o.noted(-1);
        for (int k = 0; k < count && k < 60; k++) {
            seen.append(o.noted(k)).append(' ');
        }
        return seen.append(count).toString();
    }

    private static String nodes(OnceStore o, int from, int to) {
        StringBuilder seen = new StringBuilder();
        for (int x = from; x < to; x++) {
            for (int k = 0; k <= 40; k++) {
                seen.append(o.node(x, k, false)).append(' ').append(o.node(x, k, true)).append(' ');
            }
        }
        return seen.toString();
    }

    private static String pairs(OnceStore o, int from, int to) {
        StringBuilder seen = new StringBuilder();
        for (int x = from; x < to; x++) {
            for (int y = 0; y < 48; y++) {
                seen.append(o.compare(x, y)).append(' ').append(o.matches(x, y)).append(' ');
            }
        }
        return seen.toString();
    }

    private static String sizes(OnceStore o) {
        StringBuilder seen = new StringBuilder();
        for (int x = 0; x < 48; x++) {
            seen.append(o.depth(x)).append(' ').append(o.different(x)).append(' ');
        }
        return seen.toString();
    }

    private static String roots(OnceStore o) {
        StringBuilder seen = new StringBuilder();
        for (int x = 0; x < 48; x++) {
            seen.append(o.root(x, false)).append(' ');
        }
        return seen.toString();
    }

    /** Whatever is there goes when all are asked for. */
    private static String triggers(OnceStore o) {
        StringBuilder seen = new StringBuilder();
        for (int x = 0; x < 48; x++) {
            seen.append(o.need(x)).append(' ').append(o.noted(-1)).append(' ');
        }
        return seen.append(counts(o)).toString();
    }

    /** A TRIGGER that goes at once tells that its variable is NEEDED. */
    private static String asked(OnceStore o) {
        StringBuilder seen = new StringBuilder();
        for (int x = 0; x < 48; x++) {
            seen.append(o.trigger(7, x, x)).append(' ').append(o.noted(-1)).append(' ');
        }
        return seen.toString();
    }

    private static String waiting(OnceStore o) {
        StringBuilder seen = new StringBuilder();
        for (int x = 0; x < 48; x++) {
            seen.append(o.number(x, 1000 + x)).append(' ').append(o.noted(-1)).append(' ');
        }
        return seen.append(counts(o)).toString();
    }

    private static String joined(OnceStore o) {
        StringBuilder seen = new StringBuilder();
        for (int x = 47; x > 0; x -= 3) {
            seen.append(o.equal(x, x - 1)).append(' ').append(o.noted(-1)).append(' ');
        }
        return seen.append(counts(o)).toString();
    }

    private static String trials(OnceStore o) {
        StringBuilder seen = new StringBuilder();
        for (int i = 0; i < 3; i++) {
            seen.append(o.finish(false)).append(' ');
            seen.append(counts(o)).append(' ');
        }
        return seen.toString();
    }

    private static String drafted(OnceStore o) {
        StringBuilder seen = new StringBuilder();
        for (int x = 0; x < 48; x++) {
            if (o.node(x, 0, false) == 0) {
                seen.append(o.make(x, 6)).append(' ').append(nodes(o, x, x + 1));
                return seen.append(o.state(4)).toString();
            }
        }
        return "no FREE one";
    }
}
