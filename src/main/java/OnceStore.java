/**
 * A store in which each variable gets its value once. The promises that it keeps are those of DOC.md.
 *
 * Variables that are the SAME form a class, which goes by its least member; only that member's kind,
 * value and parts count. One RECORD a class is enough: the PARTS of all others are the SAME as its own.
 */
public final class OnceStore {
    public static final int REFUSED = -1, FULL = -2, ENDLESS = -3, NOTHING = 0, YES = 1, NO = 2, WAITS = 3;

    private static final int VARIABLES = 48, TESTS = 8, TRIGGERS = 8, STREAMS = 4, TRIALS = 3;
    private static final int LABELS = 8, MOST_PARTS = 3, NOTES = 60, LAST_NODE = 40;
    // Far above what 512 calls can NOTE; without an end the count would wrap round below 0.
    private static final int MOST_NOTED = 1000000;
    private static final int NONE = -1;
    private static final long NO_NODE = -10000000000L;

    // Kinds are the codes that node() answers, so that equal kinds mean RECORDS that fit each other.
    private static final int FREE = 0, INT = 1, RECORD = 2, LABEL_STEP = 4;
    private static final int STREAM_LABEL = 7, STREAM_PARTS = 2;
    private static final int NOTED_YES = 0, NOTED_NO = 8, NOTED_TRIGGER = 16;

    // All that a TRIAL takes back lies in one array, so that a TRIAL is one copy of it.
    // What was told stands first, so that a telling that FAILS can be undone by itself.
    private static final int LEAST = 0;
    private static final int KIND = LEAST + VARIABLES;
    private static final int VALUE = KIND + VARIABLES;
    private static final int COUNT = VALUE + VARIABLES;
    private static final int PARTS = COUNT + VARIABLES;
    private static final int TOLD = PARTS + MOST_PARTS * VARIABLES;
    private static final int IN_USE = TOLD;
    private static final int ASKED = IN_USE + VARIABLES;
    private static final int ROOT = ASKED + VARIABLES;
    private static final int TEST_STATE = ROOT + VARIABLES;
    private static final int TEST_X = TEST_STATE + TESTS;
    private static final int TEST_Y = TEST_X + TESTS;
    private static final int TRIGGER_X = TEST_Y + TESTS;
    private static final int TRIGGER_Y = TRIGGER_X + TRIGGERS;
    private static final int END = TRIGGER_Y + TRIGGERS;
    private static final int NOTE = END + STREAMS;
    private static final int NOTE_COUNT = NOTE + NOTES;
    private static final int HELD = NOTE_COUNT + 1;
    private static final int SAVED = TRIALS * HELD;

    // Each of at most 47 joins adds at most three pairs, and a telling starts with at most three.
    private static final int PAIRS = MOST_PARTS * VARIABLES;
    // Each of at most 48 variables that are gone into pushes at most three, after the first one.
    private static final int STACK = MOST_PARTS * VARIABLES + 1;
    private static final int MEETINGS = VARIABLES * VARIABLES;

    private final int[] held = new int[HELD];
    private final int[] saved = new int[SAVED];
    private int trials = 0;

    private final int[] draft = new int[MOST_PARTS];
    private int drafted = 0;

    private final int[] toldBefore = new int[TOLD];
    private final int[] pairX = new int[PAIRS];
    private final int[] pairY = new int[PAIRS];
    private int pairs = 0;

    private final int[] stack = new int[STACK];
    private final int[] met = new int[VARIABLES];
    private final int[] metAs = new int[VARIABLES];
    private final int[] copies = new int[VARIABLES];
    private int metCount = 0;

    private final int[] meetings = new int[MEETINGS];
    private final boolean[] wasMeeting = new boolean[MEETINGS];
    private final int[] firstMet = new int[VARIABLES];
    private int meetingCount = 0;

    private final int[] depths = new int[VARIABLES];
    private final boolean[] isKept = new boolean[VARIABLES];

    public OnceStore() {
        for (int k = 0; k < TRIGGERS; k++) {
            removeTrigger(k);
        }
        for (int s = 0; s < STREAMS; s++) {
            held[END + s] = NONE;
        }
    }

    public int variable() {
        int x = leastUnused();
        if (x == NONE) {
            return FULL;
        }
        take(x);
        return x;
    }

    public int equal(int x, int y) {
        if (!inUse(x) || !inUse(y)) {
            return REFUSED;
        }
        int answer = tellEqual(x, y);
        settle();
        return answer;
    }

    public int number(int x, int v) {
        if (!inUse(x)) {
            return REFUSED;
        }
        int answer = tellNumber(x, v);
        settle();
        return answer;
    }

    public int part(int x) {
        if (drafted >= MOST_PARTS || !inUse(x)) {
            return REFUSED;
        }
        draft[drafted] = x;
        drafted++;
        return drafted;
    }

    public int make(int x, int label) {
        if (!inUse(x) || label < 0 || label >= LABELS || !draftInUse()) {
            return REFUSED;
        }
        int answer = tellRecord(x, label, drafted, draft[0], draft[1], draft[2]);
        drafted = 0;
        settle();
        return answer;
    }

    public int undraft() {
        int before = drafted;
        drafted = 0;
        return before;
    }

    public int compare(int x, int y) {
        if (!inUse(x) || !inUse(y)) {
            return REFUSED;
        }
        return likeness(x, y);
    }

    public int test(int t, int x, int y) {
        if (t < 0 || t >= TESTS || !inUse(x)) {
            return REFUSED;
        }
        if (y != NONE && !inUse(y)) {
            return REFUSED;
        }
        held[TEST_STATE + t] = WAITS;
        held[TEST_X + t] = x;
        held[TEST_Y + t] = y;
        settle();
        return held[TEST_STATE + t];
    }

    public int tested(int t) {
        if (t < 0 || t >= TESTS) {
            return REFUSED;
        }
        return held[TEST_STATE + t];
    }

    public boolean trigger(int k, int x, int y) {
        if (k < 0 || k >= TRIGGERS || !inUse(x) || !inUse(y)) {
            return false;
        }
        held[TRIGGER_X + k] = x;
        held[TRIGGER_Y + k] = y;
        settle();
        return true;
    }

    public boolean need(int x) {
        if (!inUse(x)) {
            return false;
        }
        held[ASKED + x] = 1;
        settle();
        return true;
    }

    public int noted(int k) {
        int count = held[NOTE_COUNT];
        if (k == -1) {
            return count;
        }
        if (k < 0 || k >= NOTES || k >= count) {
            return REFUSED;
        }
        return held[NOTE + k];
    }

    public boolean stream(int s, int x) {
        if (s < 0 || s >= STREAMS) {
            return false;
        }
        if (x != NONE && !inUse(x)) {
            return false;
        }
        held[END + s] = x;
        return true;
    }

    public int put(int s, int x) {
        if (!isStream(s) || !inUse(x)) {
            return REFUSED;
        }
        int z = leastUnused();
        if (z == NONE) {
            return FULL;
        }
        take(z);
        int answer = tellRecord(held[END + s], STREAM_LABEL, STREAM_PARTS, x, z, z);
        if (answer == NO) {
            release(z);
            return NO;
        }
        held[END + s] = z;
        settle();
        return YES;
    }

    public int end(int s) {
        return isStream(s) ? held[END + s] : REFUSED;
    }

    public int begin() {
        if (trials >= TRIALS) {
            return REFUSED;
        }
        int from = trials * HELD;
        for (int i = 0; i < HELD; i++) {
            saved[from + i] = held[i];
        }
        trials++;
        return trials;
    }

    public boolean finish(boolean kept) {
        if (trials <= 0) {
            return false;
        }
        trials--;
        if (kept) {
            return true;
        }
        int from = trials * HELD;
        for (int i = 0; i < HELD; i++) {
            held[i] = saved[from + i];
        }
        return true;
    }

    public int copy(int x) {
        if (!inUse(x)) {
            return REFUSED;
        }
        gather(x);
        int used = usedCount();
        if (VARIABLES - used < metCount) {
            return FULL;
        }
        for (int m = 0; m < VARIABLES && m < metCount; m++) {
            int z = leastUnused();
            take(z);
            copies[m] = z;
        }
        for (int m = 0; m < VARIABLES && m < metCount; m++) {
            fillCopy(met[m], copies[m]);
        }
        settle();
        return copies[0];
    }

    public int different(int x) {
        if (!inUse(x)) {
            return REFUSED;
        }
        gather(x);
        return metCount;
    }

    public int depth(int x) {
        if (!inUse(x)) {
            return REFUSED;
        }
        for (int c = 0; c < VARIABLES; c++) {
            depths[c] = 0;
        }
        // One round more than there are variables: only RECORDS within themselves grow so far.
        for (int round = 0; round <= VARIABLES; round++) {
            deepen();
        }
        int deepest = depths[held[LEAST + x]];
        return deepest > VARIABLES ? ENDLESS : deepest;
    }

    public int matches(int x, int y) {
        if (!inUse(x) || !inUse(y)) {
            return REFUSED;
        }
        forgetMeetings();
        addMeeting(x, y);
        for (int i = 0; i < MEETINGS && i < meetingCount; i++) {
            int u = meetings[i] / VARIABLES;
            int v = meetings[i] % VARIABLES;
            if (!meetingHolds(u, v)) {
                return NO;
            }
        }
        return YES;
    }

    public boolean root(int x, boolean is) {
        int mark = is ? 1 : 0;
        if (!inUse(x) || held[ROOT + x] == mark) {
            return false;
        }
        held[ROOT + x] = mark;
        return true;
    }

    public int clear() {
        if (trials > 0) {
            return REFUSED;
        }
        markKept();
        spreadKept();
        int gone = 0;
        for (int x = 0; x < VARIABLES; x++) {
            if (inUse(x) && !isKept[held[LEAST + x]]) {
                release(x);
                gone++;
            }
        }
        return gone;
    }

    public int same(int x) {
        return inUse(x) ? held[LEAST + x] : REFUSED;
    }

    public long node(int x, int k, boolean number) {
        if (!inUse(x) || k < 0 || k > LAST_NODE) {
            return NO_NODE;
        }
        stack[0] = x;
        int top = 1;
        for (int i = 0; i <= LAST_NODE && top > 0; i++) {
            top--;
            int c = held[LEAST + stack[top]];
            if (i == k) {
                return number ? numberOf(c) : held[KIND + c];
            }
            top = pushParts(c, top);
        }
        return NO_NODE;
    }

    public int state(int what) {
        switch (what) {
            case 0:
                return usedCount();
            case 1:
                return classCount(false);
            case 2:
                return classCount(true);
            case 3:
                return trials;
            case 4:
                return drafted;
            default:
                return REFUSED;
        }
    }

    private boolean inUse(int x) {
        return x >= 0 && x < VARIABLES && held[IN_USE + x] == 1;
    }

    private boolean isFree(int x) {
        return held[KIND + held[LEAST + x]] == FREE;
    }

    private boolean isStream(int s) {
        return s >= 0 && s < STREAMS && held[END + s] != NONE;
    }

    private boolean draftInUse() {
        for (int i = 0; i < MOST_PARTS && i < drafted; i++) {
            if (!inUse(draft[i])) {
                return false;
            }
        }
        return true;
    }

    private int leastUnused() {
        for (int x = 0; x < VARIABLES; x++) {
            if (held[IN_USE + x] == 0) {
                return x;
            }
        }
        return NONE;
    }

    private int usedCount() {
        int count = 0;
        for (int x = 0; x < VARIABLES; x++) {
            count += held[IN_USE + x];
        }
        return count;
    }

    private int classCount(boolean freeOnly) {
        int count = 0;
        for (int x = 0; x < VARIABLES; x++) {
            if (inUse(x) && held[LEAST + x] == x && (!freeOnly || isFree(x))) {
                count++;
            }
        }
        return count;
    }

    private long numberOf(int c) {
        return held[KIND + c] == FREE ? c : held[VALUE + c];
    }

    private void take(int x) {
        held[IN_USE + x] = 1;
        held[LEAST + x] = x;
        held[KIND + x] = FREE;
        held[VALUE + x] = 0;
        held[COUNT + x] = 0;
    }

    private void release(int x) {
        held[IN_USE + x] = 0;
        held[ASKED + x] = 0;
    }

    private void rememberTold() {
        for (int i = 0; i < TOLD; i++) {
            toldBefore[i] = held[i];
        }
    }

    private void recallTold() {
        for (int i = 0; i < TOLD; i++) {
            held[i] = toldBefore[i];
        }
    }

    private int tellEqual(int x, int y) {
        rememberTold();
        pairX[0] = x;
        pairY[0] = y;
        pairs = 1;
        int verdict = merge();
        return undoneIfFailed(verdict);
    }

    private int undoneIfFailed(int verdict) {
        if (verdict == NO) {
            recallTold();
            return NO;
        }
        return YES;
    }

    private int tellNumber(int x, int v) {
        int c = held[LEAST + x];
        if (held[KIND + c] == FREE) {
            held[KIND + c] = INT;
            held[VALUE + c] = v;
            return YES;
        }
        return held[KIND + c] == INT && held[VALUE + c] == v ? YES : NO;
    }

    private int tellRecord(int x, int label, int count, int first, int second, int third) {
        int c = held[LEAST + x];
        int kind = RECORD + LABEL_STEP * label + count;
        int at = PARTS + MOST_PARTS * c;
        if (held[KIND + c] == FREE) {
            held[KIND + c] = kind;
            held[COUNT + c] = count;
            held[at] = first;
            held[at + 1] = second;
            held[at + 2] = third;
            return YES;
        }
        if (held[KIND + c] != kind) {
            return NO;
        }
        rememberTold();
        for (int i = 0; i < MOST_PARTS; i++) {
            pairX[i] = held[at + i];
        }
        pairY[0] = first;
        pairY[1] = second;
        pairY[2] = third;
        pairs = count;
        int verdict = merge();
        return undoneIfFailed(verdict);
    }

    // ALIKE, UNLIKE and OPEN differ in what x = y would come to, so that it is told, and taken back at once.
    private int likeness(int x, int y) {
        rememberTold();
        pairX[0] = x;
        pairY[0] = y;
        pairs = 1;
        int verdict = merge();
        recallTold();
        return verdict;
    }

    // WAITS if a FREE variable was joined with another one: but for that, all that are joined were ALIKE before.
    // NO leaves the work half done, since whoever calls takes it back then.
    private int merge() {
        int verdict = YES;
        for (int i = 0; i < PAIRS && i < pairs; i++) {
            int a = held[LEAST + pairX[i]];
            int b = held[LEAST + pairY[i]];
            if (a == b) {
                continue;
            }
            if (held[KIND + a] == FREE || held[KIND + b] == FREE) {
                verdict = WAITS;
            } else if (held[KIND + a] != held[KIND + b] || held[VALUE + a] != held[VALUE + b]) {
                return NO;
            } else {
                pairParts(a, b);
            }
            if (a < b) {
                join(a, b);
            } else {
                join(b, a);
            }
        }
        return verdict;
    }

    private void pairParts(int a, int b) {
        int count = held[COUNT + a];
        for (int i = 0; i < count && pairs < PAIRS; i++) {
            pairX[pairs] = held[PARTS + MOST_PARTS * a + i];
            pairY[pairs] = held[PARTS + MOST_PARTS * b + i];
            pairs++;
        }
    }

    private void join(int low, int high) {
        if (held[KIND + low] == FREE) {
            held[KIND + low] = held[KIND + high];
            held[VALUE + low] = held[VALUE + high];
            held[COUNT + low] = held[COUNT + high];
            for (int i = 0; i < MOST_PARTS; i++) {
                held[PARTS + MOST_PARTS * low + i] = held[PARTS + MOST_PARTS * high + i];
            }
        }
        for (int x = 0; x < VARIABLES; x++) {
            if (held[LEAST + x] == high) {
                held[LEAST + x] = low;
            }
        }
    }

    private void settle() {
        // In each round but the last one a TRIGGER goes, and none comes.
        for (int round = 0; round <= TRIGGERS; round++) {
            decideTests();
            if (!goTrigger()) {
                return;
            }
        }
    }

    private void decideTests() {
        for (int t = 0; t < TESTS; t++) {
            if (held[TEST_STATE + t] != WAITS) {
                continue;
            }
            int x = held[TEST_X + t];
            int y = held[TEST_Y + t];
            int verdict = WAITS;
            if (y != NONE) {
                verdict = likeness(x, y);
            } else if (!isFree(x)) {
                verdict = YES;
            }
            if (verdict != WAITS) {
                held[TEST_STATE + t] = verdict;
                note(verdict == YES ? NOTED_YES + t : NOTED_NO + t);
            }
        }
    }

    private boolean goTrigger() {
        int k = triggerWithValue();
        if (k != NONE) {
            removeTrigger(k);
            return true;
        }
        k = neededTrigger();
        if (k == NONE) {
            return false;
        }
        int x = held[TRIGGER_X + k];
        int y = held[TRIGGER_Y + k];
        removeTrigger(k);
        note(NOTED_TRIGGER + k);
        tellEqual(x, y);
        return true;
    }

    private int triggerWithValue() {
        for (int k = 0; k < TRIGGERS; k++) {
            int x = held[TRIGGER_X + k];
            if (x != NONE && !isFree(x)) {
                return k;
            }
        }
        return NONE;
    }

    private int neededTrigger() {
        for (int k = 0; k < TRIGGERS; k++) {
            int x = held[TRIGGER_X + k];
            if (x != NONE && isNeeded(x)) {
                return k;
            }
        }
        return NONE;
    }

    private void removeTrigger(int k) {
        held[TRIGGER_X + k] = NONE;
        held[TRIGGER_Y + k] = NONE;
    }

    private boolean isNeeded(int x) {
        int c = held[LEAST + x];
        for (int v = 0; v < VARIABLES; v++) {
            if (held[ASKED + v] == 1 && held[LEAST + v] == c) {
                return true;
            }
        }
        for (int t = 0; t < TESTS; t++) {
            if (held[TEST_STATE + t] == WAITS && held[TEST_Y + t] == NONE
                    && held[LEAST + held[TEST_X + t]] == c) {
                return true;
            }
        }
        return false;
    }

    private void note(int what) {
        int count = held[NOTE_COUNT];
        if (count < NOTES) {
            held[NOTE + count] = what;
        }
        if (count < MOST_NOTED) {
            held[NOTE_COUNT] = count + 1;
        }
    }

    // One of all that are ALIKE is enough in met: the others' PARTS are ALIKE to its own, and so met with them.
    private void gather(int x) {
        metCount = 0;
        stack[0] = x;
        int top = 1;
        for (int i = 0; i < STACK && top > 0; i++) {
            top--;
            int c = held[LEAST + stack[top]];
            int m = metIndex(c);
            metAs[c] = m;
            if (m == metCount && m < VARIABLES) {
                met[m] = c;
                metCount++;
                top = pushParts(c, top);
            }
        }
    }

    private int metIndex(int c) {
        for (int m = 0; m < VARIABLES && m < metCount; m++) {
            if (likeness(c, met[m]) == YES) {
                return m;
            }
        }
        return metCount;
    }

    private int pushParts(int c, int top) {
        int next = top;
        for (int i = held[COUNT + c] - 1; i >= 0 && next < STACK; i--) {
            stack[next] = held[PARTS + MOST_PARTS * c + i];
            next++;
        }
        return next;
    }

    private void fillCopy(int c, int z) {
        held[KIND + z] = held[KIND + c];
        held[VALUE + z] = held[VALUE + c];
        int count = held[COUNT + c];
        held[COUNT + z] = count;
        for (int i = 0; i < count; i++) {
            int p = held[LEAST + held[PARTS + MOST_PARTS * c + i]];
            held[PARTS + MOST_PARTS * z + i] = copies[metAs[p]];
        }
    }

    private void deepen() {
        for (int c = 0; c < VARIABLES; c++) {
            if (held[KIND + c] < RECORD) {
                continue;
            }
            int most = 0;
            int count = held[COUNT + c];
            for (int i = 0; i < count; i++) {
                int p = held[LEAST + held[PARTS + MOST_PARTS * c + i]];
                most = depths[p] > most ? depths[p] : most;
            }
            depths[c] = most + 1;
        }
    }

    private void forgetMeetings() {
        meetingCount = 0;
        for (int i = 0; i < MEETINGS; i++) {
            wasMeeting[i] = false;
        }
        for (int u = 0; u < VARIABLES; u++) {
            firstMet[u] = NONE;
        }
    }

    private void addMeeting(int u, int v) {
        int meeting = held[LEAST + u] * VARIABLES + held[LEAST + v];
        if (!wasMeeting[meeting] && meetingCount < MEETINGS) {
            wasMeeting[meeting] = true;
            meetings[meetingCount] = meeting;
            meetingCount++;
        }
    }

    private boolean meetingHolds(int u, int v) {
        if (held[KIND + u] == FREE) {
            if (firstMet[u] == NONE) {
                firstMet[u] = v;
            }
            // ALIKE joins on, so that it is enough to look at the first one.
            return likeness(firstMet[u], v) == YES;
        }
        if (held[KIND + u] != held[KIND + v] || held[VALUE + u] != held[VALUE + v]) {
            return false;
        }
        int count = held[COUNT + u];
        for (int i = 0; i < count; i++) {
            addMeeting(held[PARTS + MOST_PARTS * u + i], held[PARTS + MOST_PARTS * v + i]);
        }
        return true;
    }

    private void markKept() {
        for (int x = 0; x < VARIABLES; x++) {
            isKept[x] = false;
        }
        for (int x = 0; x < VARIABLES; x++) {
            if (held[ROOT + x] == 1) {
                keepWithSame(x);
            }
        }
        for (int s = 0; s < STREAMS; s++) {
            keepWithSame(held[END + s]);
        }
        for (int t = 0; t < TESTS; t++) {
            if (held[TEST_STATE + t] == WAITS) {
                keepWithSame(held[TEST_X + t]);
                keepWithSame(held[TEST_Y + t]);
            }
        }
        for (int k = 0; k < TRIGGERS; k++) {
            keepWithSame(held[TRIGGER_X + k]);
            keepWithSame(held[TRIGGER_Y + k]);
        }
    }

    private void keepWithSame(int x) {
        if (x != NONE) {
            isKept[held[LEAST + x]] = true;
        }
    }

    private void spreadKept() {
        // No way from one class to another is longer than there are variables.
        for (int round = 0; round < VARIABLES; round++) {
            for (int c = 0; c < VARIABLES; c++) {
                int count = isKept[c] ? held[COUNT + c] : 0;
                for (int i = 0; i < count; i++) {
                    keepWithSame(held[PARTS + MOST_PARTS * c + i]);
                }
            }
        }
    }
}
