import java.util.ArrayList;
import java.util.HashMap;
import java.util.HashSet;
import java.util.List;
import java.util.Map;
import java.util.Set;
import java.util.TreeMap;
import java.util.TreeSet;
import java.util.function.ToLongFunction;

/**
 * Long runs of mixed calls on OnceStore, each answer held against a second store, which works the
 * answers out anew from the document's definitions each time: from lists of what was told.
 */
public final class ModelRuns extends Checks {
    private static final int MOST_CALLS = 512;

    private record Equation(int x, int y) { }

    private record Value(int x, int v) { }

    private record Rec(int x, int label, List<Integer> parts) {
        boolean fits(Rec other) {
            return label == other.label && parts.size() == other.parts.size();
        }
    }

    /** What was told, and what follows from it. */
    private static final class Told {
        final List<Equation> equations = new ArrayList<>();
        final List<Value> ints = new ArrayList<>();
        final List<Rec> records = new ArrayList<>();
        private int[] name;
        private boolean[][] alike;

        Told() { }

        Told(Told other) {
            equations.addAll(other.equations);
            ints.addAll(other.ints);
            records.addAll(other.records);
        }

        void changed() {
            name = null;
            alike = null;
        }

        int same(int x) {
            if (name == null) {
                name = names();
            }
            return name[x];
        }

        private int[] names() {
            int[] n = new int[48];
            for (int i = 0; i < 48; i++) {
                n[i] = i;
            }
            boolean again = true;
            while (again) {
                again = false;
                for (Equation e : equations) {
                    again |= join(n, e.x, e.y);
                }
                for (Rec a : records) {
                    for (Rec b : records) {
                        if (n[a.x] == n[b.x] && a.fits(b)) {
                            for (int i = 0; i < a.parts.size(); i++) {
                                again |= join(n, a.parts.get(i), b.parts.get(i));
                            }
                        }
                    }
                }
            }
            return n;
        }

        private static boolean join(int[] n, int x, int y) {
            int a = Math.min(n[x], n[y]);
            int b = Math.max(n[x], n[y]);
            for (int i = 0; i < 48; i++) {
                n[i] = n[i] == b ? a : n[i];
            }
            return a != b;
        }

        List<Rec> recordsOf(int x) {
            List<Rec> found = new ArrayList<>();
            for (Rec r : records) {
                if (same(r.x) == same(x)) {
                    found.add(r);
                }
            }
            return found;
        }

        Rec recordOf(int x) {
            List<Rec> found = recordsOf(x);
            return found.isEmpty() ? null : found.get(0);
        }

        Integer intOf(int x) {
            for (Value v : ints) {
                if (same(v.x) == same(x)) {
                    return v.v;
                }
            }
            return null;
        }

        boolean free(int x) {
            return intOf(x) == null && recordOf(x) == null;
        }

        boolean fails() {
            for (Value a : ints) {
                for (Value b : ints) {
                    if (same(a.x) == same(b.x) && a.v != b.v) {
                        return true;
                    }
                }
                for (Rec r : records) {
                    if (same(a.x) == same(r.x)) {
                        return true;
                    }
                }
            }
            for (Rec a : records) {
                for (Rec b : records) {
                    if (same(a.x) == same(b.x) && !a.fits(b)) {
                        return true;
                    }
                }
            }
            return false;
        }

        boolean alike(int x, int y) {
            if (alike == null) {
                alike = greatestAlike();
            }
            return alike[x][y];
        }

        private boolean[][] greatestAlike() {
            boolean[][] m = new boolean[48][48];
            Rec[] record = new Rec[48];
            Integer[] number = new Integer[48];
            for (int x = 0; x < 48; x++) {
                record[x] = recordOf(x);
                number[x] = intOf(x);
                java.util.Arrays.fill(m[x], true);
            }
            boolean again = true;
            while (again) {
                again = false;
                for (int x = 0; x < 48; x++) {
                    for (int y = 0; y < 48; y++) {
                        if (m[x][y] && !mayBeAlike(m, record, number, x, y)) {
                            m[x][y] = false;
                            again = true;
                        }
                    }
                }
            }
            return m;
        }

        private boolean mayBeAlike(boolean[][] m, Rec[] record, Integer[] number, int x, int y) {
            if (same(x) == same(y)) {
                return true;
            }
            if (number[x] != null || number[y] != null) {
                return number[x] != null && number[x].equals(number[y]);
            }
            if (record[x] == null || record[y] == null || !record[x].fits(record[y])) {
                return false;
            }
            for (int i = 0; i < record[x].parts.size(); i++) {
                if (!m[record[x].parts.get(i)][record[y].parts.get(i)]) {
                    return false;
                }
            }
            return true;
        }

        int compare(int x, int y) {
            if (alike(x, y)) {
                return YES;
            }
            Told with = new Told(this);
            with.equations.add(new Equation(x, y));
            return with.fails() ? NO : WAITS;
        }
    }

    /** All that a TRIAL takes back. */
    private static final class State {
        Told told = new Told();
        final Set<Integer> used = new TreeSet<>();
        final Set<Integer> asked = new TreeSet<>();
        final Set<Integer> roots = new TreeSet<>();
        final int[] testState = new int[8];
        final int[] testX = new int[8];
        final int[] testY = new int[8];
        final Integer[] triggerX = new Integer[8];
        final Integer[] triggerY = new Integer[8];
        final Integer[] ends = new Integer[4];
        final List<Integer> notes = new ArrayList<>();

        State() { }

        State(State o) {
            told = new Told(o.told);
            used.addAll(o.used);
            asked.addAll(o.asked);
            roots.addAll(o.roots);
            System.arraycopy(o.testState, 0, testState, 0, 8);
            System.arraycopy(o.testX, 0, testX, 0, 8);
            System.arraycopy(o.testY, 0, testY, 0, 8);
            System.arraycopy(o.triggerX, 0, triggerX, 0, 8);
            System.arraycopy(o.triggerY, 0, triggerY, 0, 8);
            System.arraycopy(o.ends, 0, ends, 0, 4);
            notes.addAll(o.notes);
        }
    }

    private static final class Model {
        State s = new State();
        final List<State> trials = new ArrayList<>();
        final List<Integer> draft = new ArrayList<>();

        boolean in(int x) {
            return s.used.contains(x);
        }

        int leastUnused() {
            for (int x = 0; x < 48; x++) {
                if (!in(x)) {
                    return x;
                }
            }
            return FULL;
        }

        int variable() {
            int x = leastUnused();
            if (x >= 0) {
                s.used.add(x);
            }
            return x;
        }

        int tell(Told with) {
            if (with.fails()) {
                return NO;
            }
            s.told = with;
            settle();
            return YES;
        }

        void settle() {
            while (true) {
                for (int t = 0; t < 8; t++) {
                    if (s.testState[t] == WAITS) {
                        int v = s.testY[t] >= 0 ? s.told.compare(s.testX[t], s.testY[t])
                                : s.told.free(s.testX[t]) ? WAITS : YES;
                        if (v != WAITS) {
                            s.testState[t] = v;
                            s.notes.add(v == YES ? t : 8 + t);
                        }
                    }
                }
                int k = 0;
                while (k < 8 && (s.triggerX[k] == null || s.told.free(s.triggerX[k]))) {
                    k++;
                }
                if (k < 8) {
                    s.triggerX[k] = null;
                    continue;
                }
                k = 0;
                while (k < 8 && (s.triggerX[k] == null || !needed(s.triggerX[k]))) {
                    k++;
                }
                if (k == 8) {
                    return;
                }
                s.notes.add(16 + k);
                s.told.equations.add(new Equation(s.triggerX[k], s.triggerY[k]));
                s.told.changed();
                s.triggerX[k] = null;
            }
        }

        boolean needed(int x) {
            for (int v : s.used) {
                if (s.told.same(v) == s.told.same(x)) {
                    if (s.asked.contains(v)) {
                        return true;
                    }
                    for (int t = 0; t < 8; t++) {
                        if (s.testState[t] == WAITS && s.testY[t] < 0 && s.testX[t] == v) {
                            return true;
                        }
                    }
                }
            }
            return false;
        }

        int equal(int x, int y) {
            if (!in(x) || !in(y)) {
                return REFUSED;
            }
            Told with = new Told(s.told);
            with.equations.add(new Equation(x, y));
            return tell(with);
        }

        int number(int x, int v) {
            if (!in(x)) {
                return REFUSED;
            }
            Told with = new Told(s.told);
            with.ints.add(new Value(x, v));
            return tell(with);
        }

        int part(int x) {
            if (!in(x) || draft.size() == 3) {
                return REFUSED;
            }
            draft.add(x);
            return draft.size();
        }

        int make(int x, int label) {
            if (!in(x) || label < 0 || label > 7 || !s.used.containsAll(draft)) {
                return REFUSED;
            }
            Told with = new Told(s.told);
            with.records.add(new Rec(x, label, new ArrayList<>(draft)));
            draft.clear();
            return tell(with);
        }

        int undraft() {
            int n = draft.size();
            draft.clear();
            return n;
        }

        int compare(int x, int y) {
            return in(x) && in(y) ? s.told.compare(x, y) : REFUSED;
        }

        int test(int t, int x, int y) {
            if (t < 0 || t > 7 || !in(x) || y != -1 && !in(y)) {
                return REFUSED;
            }
            s.testState[t] = WAITS;
            s.testX[t] = x;
            s.testY[t] = y;
            settle();
            return s.testState[t];
        }

        int tested(int t) {
            return t < 0 || t > 7 ? REFUSED : s.testState[t];
        }

        int trigger(int k, int x, int y) {
            if (k < 0 || k > 7 || !in(x) || !in(y)) {
                return 0;
            }
            s.triggerX[k] = x;
            s.triggerY[k] = y;
            settle();
            return 1;
        }

        int need(int x) {
            if (!in(x)) {
                return 0;
            }
            s.asked.add(x);
            settle();
            return 1;
        }

        int noted(int k) {
            if (k == -1) {
                return s.notes.size();
            }
            return k < 0 || k >= 60 || k >= s.notes.size() ? REFUSED : s.notes.get(k);
        }

        int stream(int i, int x) {
            if (i < 0 || i > 3 || x != -1 && !in(x)) {
                return 0;
            }
            s.ends[i] = x == -1 ? null : (Integer) x;
            return 1;
        }

        int put(int i, int x) {
            if (i < 0 || i > 3 || s.ends[i] == null || !in(x)) {
                return REFUSED;
            }
            int z = leastUnused();
            if (z < 0) {
                return FULL;
            }
            Told with = new Told(s.told);
            with.records.add(new Rec(s.ends[i], 7, List.of(x, z)));
            if (with.fails()) {
                return NO;
            }
            s.used.add(z);
            s.ends[i] = z;
            return tell(with);
        }

        int end(int i) {
            return i < 0 || i > 3 || s.ends[i] == null ? REFUSED : s.ends[i];
        }

        int begin() {
            if (trials.size() == 3) {
                return REFUSED;
            }
            trials.add(new State(s));
            return trials.size();
        }

        int finish(boolean kept) {
            if (trials.isEmpty()) {
                return 0;
            }
            State before = trials.remove(trials.size() - 1);
            if (!kept) {
                s = before;
            }
            return 1;
        }

        void meet(int x, List<Integer> met) {
            for (int m : met) {
                if (s.told.alike(m, x)) {
                    return;
                }
            }
            met.add(x);
            Rec r = s.told.recordOf(x);
            if (r != null) {
                for (int p : r.parts) {
                    meet(p, met);
                }
            }
        }

        int copy(int x) {
            if (!in(x)) {
                return REFUSED;
            }
            List<Integer> met = new ArrayList<>();
            meet(x, met);
            if (48 - s.used.size() < met.size()) {
                return FULL;
            }
            Map<Integer, Integer> copyOf = new HashMap<>();
            for (int m : met) {
                copyOf.put(m, variable());
            }
            Told with = new Told(s.told);
            for (int m : met) {
                Integer number = s.told.intOf(m);
                Rec r = s.told.recordOf(m);
                if (number != null) {
                    with.ints.add(new Value(copyOf.get(m), number));
                }
                if (r != null) {
                    List<Integer> parts = new ArrayList<>();
                    for (int p : r.parts) {
                        for (int q : met) {
                            if (s.told.alike(p, q)) {
                                parts.add(copyOf.get(q));
                            }
                        }
                    }
                    with.records.add(new Rec(copyOf.get(m), r.label, parts));
                }
            }
            tell(with);
            return copyOf.get(x);
        }

        int different(int x) {
            if (!in(x)) {
                return REFUSED;
            }
            List<Integer> met = new ArrayList<>();
            meet(x, met);
            return met.size();
        }

        int depth(int x) {
            return in(x) ? deep(x, new HashSet<>(), new HashMap<>()) : REFUSED;
        }

        int deep(int x, Set<Integer> above, Map<Integer, Integer> done) {
            int c = s.told.same(x);
            if (done.containsKey(c)) {
                return done.get(c);
            }
            Rec r = s.told.recordOf(x);
            if (r == null) {
                return 0;
            }
            if (!above.add(c)) {
                return ENDLESS;
            }
            int most = 0;
            for (int p : r.parts) {
                int d = deep(p, above, done);
                if (d == ENDLESS) {
                    return ENDLESS;
                }
                most = Math.max(most, d);
            }
            above.remove(c);
            done.put(c, most + 1);
            return most + 1;
        }

        int matches(int x, int y) {
            if (!in(x) || !in(y)) {
                return REFUSED;
            }
            Set<Equation> seen = new HashSet<>();
            List<Equation> all = new ArrayList<>();
            all.add(new Equation(x, y));
            seen.add(all.get(0));
            for (int i = 0; i < all.size(); i++) {
                for (Rec a : s.told.recordsOf(all.get(i).x)) {
                    for (Rec b : s.told.recordsOf(all.get(i).y)) {
                        for (int j = 0; a.fits(b) && j < a.parts.size(); j++) {
                            Equation e = new Equation(a.parts.get(j), b.parts.get(j));
                            if (seen.add(e)) {
                                all.add(e);
                            }
                        }
                    }
                }
            }
            for (Equation a : all) {
                if (!s.told.free(a.x) && !bothHave(a.x, a.y)) {
                    return NO;
                }
                for (Equation b : all) {
                    if (s.told.free(a.x) && s.told.same(a.x) == s.told.same(b.x) && !s.told.alike(a.y, b.y)) {
                        return NO;
                    }
                }
            }
            return YES;
        }

        boolean bothHave(int u, int v) {
            Integer number = s.told.intOf(u);
            if (number != null) {
                return number.equals(s.told.intOf(v));
            }
            Rec r = s.told.recordOf(v);
            return r != null && s.told.recordOf(u).fits(r);
        }

        int root(int x, boolean is) {
            if (!in(x)) {
                return 0;
            }
            return (is ? s.roots.add(x) : s.roots.remove(x)) ? 1 : 0;
        }

        int clear() {
            if (!trials.isEmpty()) {
                return REFUSED;
            }
            Set<Integer> kept = new TreeSet<>(s.roots);
            for (Integer e : s.ends) {
                if (e != null) {
                    kept.add(e);
                }
            }
            for (int i = 0; i < 8; i++) {
                if (s.testState[i] == WAITS) {
                    kept.add(s.testX[i]);
                    if (s.testY[i] >= 0) {
                        kept.add(s.testY[i]);
                    }
                }
                if (s.triggerX[i] != null) {
                    kept.add(s.triggerX[i]);
                    kept.add(s.triggerY[i]);
                }
            }
            int size = -1;
            while (size != kept.size()) {
                size = kept.size();
                for (int x : s.used) {
                    for (int y : new ArrayList<>(kept)) {
                        if (s.told.same(x) == s.told.same(y)) {
                            kept.add(x);
                        }
                    }
                }
                for (int y : new ArrayList<>(kept)) {
                    for (Rec r : s.told.recordsOf(y)) {
                        kept.addAll(r.parts);
                    }
                }
            }
            Told left = new Told();
            for (int x : kept) {
                left.equations.add(new Equation(x, s.told.same(x)));
            }
            s.told.ints.forEach(v -> {
                if (kept.contains(v.x)) {
                    left.ints.add(v);
                }
            });
            s.told.records.forEach(r -> {
                if (kept.contains(r.x)) {
                    left.records.add(r);
                }
            });
            int gone = s.used.size() - kept.size();
            s.told = left;
            s.used.retainAll(kept);
            s.asked.retainAll(kept);
            return gone;
        }

        int same(int x) {
            return in(x) ? s.told.same(x) : REFUSED;
        }

        long node(int x, int k, boolean number) {
            if (!in(x) || k < 0 || k > 40) {
                return NO_NODE;
            }
            List<Integer> out = new ArrayList<>();
            write(x, k, out);
            if (out.size() <= k) {
                return NO_NODE;
            }
            int n = out.get(k);
            Rec r = s.told.recordOf(n);
            if (r != null) {
                return number ? 0 : 2 + 4 * r.label + r.parts.size();
            }
            if (s.told.intOf(n) != null) {
                return number ? s.told.intOf(n) : 1;
            }
            return number ? s.told.same(n) : 0;
        }

        void write(int x, int k, List<Integer> out) {
            if (out.size() > k) {
                return;
            }
            out.add(x);
            Rec r = s.told.recordOf(x);
            if (r != null) {
                for (int p : r.parts) {
                    write(p, k, out);
                }
            }
        }

        int state(int what) {
            Set<Integer> classes = new TreeSet<>();
            Set<Integer> free = new TreeSet<>();
            for (int x : s.used) {
                classes.add(s.told.same(x));
                if (s.told.free(x)) {
                    free.add(s.told.same(x));
                }
            }
            int[] counts = {s.used.size(), classes.size(), free.size(), trials.size(), draft.size()};
            return what < 0 || what > 4 ? REFUSED : counts[what];
        }
    }

    /** A call, and the answer that the model gave to it. */
    private record Call(String text, ToLongFunction<OnceStore> on, long due) { }

    private static int seed;
    private static final Map<String, Integer> answers = new TreeMap<>();

    private static int below(int n) {
        seed = seed * 1103515245 + 12345;
        return ((seed >>> 8) & 0xffff) % n;
    }

    private static int pick(Model m) {
        if (below(40) == 0 || m.s.used.isEmpty()) {
            int[] odd = {-1, -2, 47, 48, 49, 20, Integer.MIN_VALUE, Integer.MAX_VALUE};
            return odd[below(odd.length)];
        }
        List<Integer> all = new ArrayList<>(m.s.used);
        return all.get(below(all.size()));
    }

    private static int freeOr(int x, Model m) {
        for (int z : m.s.used) {
            if (m.s.told.free(z)) {
                return z;
            }
        }
        return x;
    }

    private static int index(int n) {
        int[] odd = {-1, n, Integer.MIN_VALUE, Integer.MAX_VALUE};
        return below(30) == 0 ? odd[below(odd.length)] : below(n);
    }

    private static Call call(String name, long due, ToLongFunction<OnceStore> on, Object... arguments) {
        List<String> texts = new ArrayList<>();
        for (Object a : arguments) {
            texts.add(a.toString());
        }
        answers.merge(name + (due < 4 ? " " + due : " more"), 1, Integer::sum);
        return new Call(name + "(" + String.join(", ", texts) + ")", on, due);
    }

    /**
     * One call on the model; calls that tell come most often, with few labels and ints so that many fit,
     * but in quiet runs less often, so that more stay FREE.
     */
    private static Call step(int most, boolean quiet, Model m) {
        int x = pick(m);
        int y = pick(m);
        int v = below(8) == 0 ? LOW + below(2) : below(2);
        boolean b = below(2) == 0;
        int t = index(8);
        int q = index(4);
        int which = below(40);
        boolean tells = which >= 6 && which <= 18;
        switch (quiet && tells && below(3) != 0 ? 30 : which) {
            case 0: case 1: case 2: case 3: case 4: case 5:
                if (m.s.used.size() >= most && most < 48) {
                    return call("state", m.state(0), o -> o.state(0), 0);
                }
                return call("variable", m.variable(), o -> o.variable());
            case 6: case 7: case 8:
                return call("equal", m.equal(x, y), o -> o.equal(x, y), x, y);
            case 9:
                return call("number", m.number(x, v), o -> o.number(x, v), x, v);
            case 10: case 11: case 12: case 13: case 14:
                return call("part", m.part(x), o -> o.part(x), x);
            case 15: case 16: case 17: case 18: {
                int label = below(25) == 0 ? index(8) : below(12) == 0 ? 7 : below(2);
                return call("make", m.make(x, label), o -> o.make(x, label), x, label);
            }
            case 19:
                return below(6) == 0 ? call("undraft", m.undraft(), o -> o.undraft())
                        : call("part", m.part(y), o -> o.part(y), y);
            case 20:
                return call("compare", m.compare(x, y), o -> o.compare(x, y), x, y);
            case 21: case 22: {
                int z = below(3) == 0 ? -1 : y;
                return call("test", m.test(t, x, z), o -> o.test(t, x, z), t, x, z);
            }
            case 23:
                return call("tested", m.tested(t), o -> o.tested(t), t);
            case 24: case 25: case 26:
                return call("trigger", m.trigger(t, x, y), o -> bit(o.trigger(t, x, y)), t, x, y);
            case 27:
                return below(3) == 0 ? call("need", m.need(x), o -> bit(o.need(x)), x)
                        : call("same", m.same(x), o -> o.same(x), x);
            case 28: {
                int k = below(3) == 0 ? index(62) : index(m.s.notes.size() + 1);
                return call("noted", m.noted(k), o -> o.noted(k), k);
            }
            case 29: {
                int z = below(6) == 0 ? -1 : below(2) == 0 ? x : freeOr(x, m);
                return call("stream", m.stream(q, z), o -> bit(o.stream(q, z)), q, z);
            }
            default:
                return stepMore(m, x, y, q, b);
        }
    }

    private static Call stepMore(Model m, int x, int y, int q, boolean b) {
        switch (below(12)) {
            case 0:
                return call("put", m.put(q, x), o -> o.put(q, x), q, x);
            case 1:
                return call("end", m.end(q), o -> o.end(q), q);
            case 2:
                return call("begin", m.begin(), o -> o.begin());
            case 3:
                return call("finish", m.finish(b), o -> bit(o.finish(b)), b);
            case 4:
                return below(4) == 0 ? call("copy", m.copy(x), o -> o.copy(x), x)
                        : call("put", m.put(q, y), o -> o.put(q, y), q, y);
            case 5:
                return call("different", m.different(x), o -> o.different(x), x);
            case 6:
                return call("depth", m.depth(x), o -> o.depth(x), x);
            case 7:
                return call("matches", m.matches(x, y), o -> o.matches(x, y), x, y);
            case 8: case 9:
                return call("root", m.root(x, b), o -> bit(o.root(x, b)), x, b);
            case 10:
                return below(4) == 0 ? call("clear", m.clear(), o -> o.clear())
                        : call("root", m.root(y, b), o -> bit(o.root(y, b)), y, b);
            default: {
                int k = below(2) == 0 ? below(6) : index(42);
                return call("node", m.node(x, k, b), o -> o.node(x, k, b), x, k, b);
            }
        }
    }

    private static void lookAtCounts(Model m, List<Call> looks) {
        for (int i = -1; i <= 5; i++) {
            int what = i;
            looks.add(call("state", m.state(what), o -> o.state(what), what));
        }
        for (int i = -1; i <= 48; i++) {
            int x = i;
            looks.add(call("same", m.same(x), o -> o.same(x), x));
        }
        for (int i = -1; i <= 8; i++) {
            int t = i;
            looks.add(call("tested", m.tested(t), o -> o.tested(t), t));
            looks.add(call("end", m.end(t), o -> o.end(t), t));
        }
        for (int i = -1; i <= 61; i++) {
            int k = i;
            looks.add(call("noted", m.noted(k), o -> o.noted(k), k));
        }
    }

    private static void lookAtTrees(Model m, int x, List<Call> looks) {
        looks.add(call("different", m.different(x), o -> o.different(x), x));
        looks.add(call("depth", m.depth(x), o -> o.depth(x), x));
        for (int i = 0; i <= 41; i++) {
            int k = i;
            looks.add(call("node", m.node(x, k, false), o -> o.node(x, k, false), x, k, false));
            looks.add(call("node", m.node(x, k, true), o -> o.node(x, k, true), x, k, true));
        }
    }

    private static void lookAtPairs(Model m, int x, List<Call> looks) {
        for (int i = 0; i < 48; i++) {
            int y = i;
            looks.add(call("compare", m.compare(x, y), o -> o.compare(x, y), x, y));
            // Dear for the model, where many meet many.
            if (m.s.used.size() < 16) {
                looks.add(call("matches", m.matches(x, y), o -> o.matches(x, y), x, y));
            }
        }
    }

    private static void hold(OnceStore o, int from, List<Call> calls) {
        int at = from;
        for (Call c : calls) {
            at++;
            due("call " + at + ", " + c.text, c.on.applyAsLong(o), c.due);
        }
    }

    /** Looks that change nothing, on as many objects that had the calls as it takes to keep within 512 on each. */
    private static void look(List<Call> calls, List<Call> looks) {
        int room = MOST_CALLS - calls.size();
        for (int from = 0; from < looks.size(); from += room) {
            OnceStore o = new OnceStore();
            hold(o, 0, calls);
            hold(o, calls.size(), looks.subList(from, Math.min(from + room, looks.size())));
        }
    }

    private static void run(int length, int most, boolean quiet) {
        Model m = new Model();
        List<Call> calls = new ArrayList<>();
        for (int at = 1; at <= length; at++) {
            calls.add(step(most, quiet, m));
            if (at % 40 == 0) {
                List<Call> looks = new ArrayList<>();
                lookAtCounts(m, looks);
                look(calls, looks);
            }
        }
        List<Call> looks = new ArrayList<>();
        lookAtCounts(m, looks);
        for (int x = 0; x < 48; x++) {
            lookAtTrees(m, x, looks);
            lookAtPairs(m, x, looks);
        }
        look(calls, looks);
    }

    public static void main(String[] args) {
        int runs = args.length > 0 ? Integer.parseInt(args[0]) : 300;
        int first = args.length > 1 ? Integer.parseInt(args[1]) : 1;
        int[] sizes = {4, 8, 12, 20, 48};
        for (int run = first; run < first + runs && !anyWrong(); run++) {
            at("run " + run);
            seed = run * 7919;
            int length = 60 + below(400);
            run(length, sizes[run % sizes.length], run % 3 == 0);
        }
        if (args.length > 0) {
            answers.forEach((k, n) -> System.out.println(k + ": " + n));
        }
        tellAndExit();
    }
}
