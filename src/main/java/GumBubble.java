/** Children who chew gum and blow bubbles, minute by minute; ../shared/DOC.md says what each call answers. */
public final class GumBubble {
    public static final int NONE = -1, BAD = -2, STATE = -3, FULL = -4;
    /** There is no such number. */
    public static final long NO = Long.MIN_VALUE;

    private static final int NOT_ANY = -5, BURSTS = -6, OTHER_KIND = -6, NO_SLACK = -10001;
    private static final int MOST_CHILDREN = 5, MOST_AFTERNOONS = 5;
    private static final int MOST_SEEN = 5, MOST_PLAN = 8, MOST_BOOK = 8, MOST_TRACE = 20;
    private static final int MOST_PIECES = 6, MOST_SUGAR = 999, MOST_JAW = 99, MOST_HAIR = 9999;
    private static final int LAST_MINUTE = 9999, LONGEST = 60, LARGEST = 999;
    private static final int KINDS = 7, THINS = 10;

    private final Plain[] kinds = new Plain[KINDS];
    private final Scene now;
    private final Scene kept;
    private boolean hasImage;
    private final Rows trace = new Rows(MOST_TRACE);
    /** What is asked is tried on this one, so that asking changes nobody. */
    private final Child trial;
    private final int[] behind = new int[MOST_CHILDREN * MOST_CHILDREN];
    private final int[] tried = new int[MOST_CHILDREN];
    private final int[] best = new int[MOST_CHILDREN];
    private int bestSum;

    public GumBubble() {
        Plain plain = new Plain(0);
        kinds[0] = plain;
        kinds[1] = new Quick(1);
        kinds[2] = new Slow(2);
        kinds[3] = new Cold(3);
        kinds[4] = new Greedy(4);
        kinds[5] = new Careful(5);
        kinds[6] = new Told(6);
        now = new Scene(plain);
        kept = new Scene(plain);
        trial = new Child(0, plain);
    }

    // ---- afternoons, children

    public int feed(int sign) {
        if (isOutside(sign, 0, 127)) return BAD;
        if (now.tapeSize >= now.tape.length) return FULL;
        now.tape[now.tapeSize] = sign;
        now.tapeSize++;
        return now.tapeSize;
    }

    public int afternoon() {
        if (now.afternoons >= MOST_AFTERNOONS) return FULL;
        Afternoon next = new Afternoon();
        int fault = next.read(now.tape, now.tapeSize);
        now.tapeSize = 0;
        if (fault >= 0) return -10 - fault;
        now.afternoon = next;
        now.afternoons++;
        return now.afternoons - 1;
    }

    public int child(int kind, int v) {
        if (isOutside(kind, 0, KINDS - 1)) return NONE;
        if (isOutside(v, 0, 9)) return BAD;
        if (now.size >= MOST_CHILDREN) return FULL;
        now.children[now.size].begin(kinds[kind], v, now.afternoon.sweet);
        now.size++;
        return now.size - 1;
    }

    public int of(int child, int what) {
        if (isNobody(child)) return NONE;
        Child one = now.children[child];
        switch (what) {
            case 0: return one.kind.number;
            case 1: return one.v;
            case 2: return one.pieces;
            case 3: return one.sugar;
            case 4: return one.jaw;
            case 5: return one.bubble;
            case 6: return one.hair;
            case 7: return now.afternoon.stretchOf(one, now.minute);
            case 8: return one.kind.sugarChewed(one, now.minute);
            case 9: return one.kind.jawTired(one);
            case 10: return holdsNow(child);
            default: return NONE;
        }
    }

    public int row(int child, int k, int n) {
        if (isNobody(child) || isOutside(k, 0, 3)) return NONE;
        if (isOutside(n, 0, 9)) return BAD;
        Child one = now.children[child];
        if (!(one.kind instanceof Told)) return STATE;
        int was = one.row[k];
        one.row[k] = n;
        return was;
    }

    public int set(int child, int what, int n) {
        if (isNobody(child) || isOutside(what, 0, 2)) return NONE;
        Child one = now.children[child];
        int most = what == 0 ? MOST_PIECES : what == 1 ? MOST_SUGAR : MOST_JAW;
        if (isOutside(n, 0, most)) return BAD;
        int was;
        if (what == 0) {
            was = one.pieces;
            one.pieces = n;
        } else if (what == 1) {
            was = one.sugar;
            one.sugar = n;
        } else {
            was = one.jaw;
            one.jaw = n;
        }
        return was;
    }

    public int told(int what) {
        switch (what) {
            case 0: return now.minute;
            case 1: return now.afternoon.wind;
            case 2: return now.afternoon.sweet;
            case 3: return sumBehind(0);
            case 4: return bubbleBits();
            default: return NONE;
        }
    }

    public int blow(int child, int n) {
        if (isNobody(child)) return NONE;
        if (isOutside(n, 1, 99)) return BAD;
        Child one = now.children[child];
        if (one.pieces == 0) return STATE;
        boolean burst = one.breathe(n, holdsNow(child));
        return burst ? BURSTS : one.bubble;
    }

    public int pass(int n) {
        if (isOutside(n, 0, LONGEST)) return BAD;
        if (now.minute + n > LAST_MINUTE) return STATE;
        for (int i = 0; i < n; i++) {
            for (int c = 0; c < now.size; c++) now.children[c].passMinute(now.minute);
            now.minute++;
        }
        return now.minute;
    }

    // ---- minutes to come

    public int on(int n, int what) {
        int child = what >= 20 ? what - 20 : what - 10;
        if (what != 0 && isNobody(child)) return NONE;
        if (isOutside(n, 0, LONGEST)) return BAD;
        if (what == 0) return sumBehind(n);
        int holds = holdsBehind(child, n);
        return what >= 20 ? trial.sugar : holds;
    }

    public int when(int child, int what) {
        if (isNobody(child) || isOutside(what, 0, 1)) return NONE;
        trial.copy(now.children[child]);
        return trialWhen(what);
    }

    public int soon(int child, int n) {
        if (isNobody(child)) return NONE;
        if (isOutside(n, 1, LARGEST)) return BAD;
        trial.copy(now.children[child]);
        for (int i = 0; i <= LONGEST; i++) {
            if (trial.holds(now.afternoon, now.minute + i) >= n) return i;
            trial.passMinute(now.minute + i);
        }
        return NOT_ANY;
    }

    public int pieces(int child, int what) {
        if (isNobody(child) || isOutside(what, 0, 1)) return NONE;
        int most = -1;
        int fewest = 0;
        for (int p = 0; p <= MOST_PIECES; p++) {
            trial.copy(now.children[child]);
            trial.pieces = p;
            trial.sugar = now.afternoon.sweet * p;
            trial.bubble = 0;
            int holds = trialWhen(1);
            if (holds > most) {
                most = holds;
                fewest = p;
            }
        }
        return what == 0 ? fewest : most;
    }

    public int breaths(int child, int n) {
        if (isNobody(child)) return NONE;
        if (isOutside(n, 1, 99)) return BAD;
        return Math.max(0, holdsNow(child) - now.children[child].bubble) / n;
    }

    public int slack(int child) {
        if (isNobody(child)) return NO_SLACK;
        return holdsNow(child) - now.children[child].bubble;
    }

    // ---- thin places; part 0 above, 1 below the line

    public long likely(int child, int n, int part) {
        if (isNobody(child) || isOutside(n, 0, LARGEST) || isOutside(part, 0, 1)) return NO;
        return fraction(thinsBearing(holdsNow(child), n), THINS, part);
    }

    public int dare(int child) {
        if (isNobody(child)) return NONE;
        int holds = holdsNow(child);
        int greatest = 0;
        int least = 0;
        // A size between two of these is no likelier than the next of them, so none of those can be best.
        for (int d = THINS - 1; d >= 0; d--) {
            int n = Math.min(LARGEST, thinned(holds, d));
            int worth = n * thinsBearing(holds, n);
            if (worth > greatest) {
                greatest = worth;
                least = n;
            }
        }
        return least;
    }

    public int first() {
        int found = NOT_ANY;
        int most = -1;
        for (int c = 0; c < now.size; c++) {
            int holds = holdsNow(c);
            if (holds > most) {
                most = holds;
                found = c;
            }
        }
        return found;
    }

    public long beats(int one, int other, int part) {
        if (isNobody(one) || isNobody(other) || isOutside(part, 0, 1) || one == other) return NO;
        int mine = holdsNow(one);
        int theirs = holdsNow(other);
        int more = 0;
        for (int d = 0; d < THINS; d++) {
            more += thinsBelow(theirs, thinned(mine, d));
        }
        return fraction(more, THINS * THINS, part);
    }

    // ---- swaps, orders, hair

    public int swap() {
        int most = 0;
        int found = NOT_ANY;
        for (int one = 0; one < now.size; one++) {
            for (int other = one + 1; other < now.size; other++) {
                int gain = holdsWithGumOf(one, other) + holdsWithGumOf(other, one)
                        - holdsNow(one) - holdsNow(other);
                if (gain > most) {
                    most = gain;
                    found = 10 * one + other;
                }
            }
        }
        return found;
    }

    public int order(int k) {
        if (isOutside(k, -1, MOST_CHILDREN - 1)) return NONE;
        if (k >= now.size) return NOT_ANY;
        for (int c = 0; c < now.size; c++) fillBehind(c);
        bestSum = -1;
        arrange(0, 0, 0);
        return k < 0 ? bestSum : best[k];
    }

    public int clean(int child, int n) {
        if (isNobody(child)) return NONE;
        if (isOutside(n, 1, 99)) return BAD;
        return (now.children[child].hair + n - 1) / n;
    }

    // ---- seen, means

    public int see(int child, int holds, int n) {
        if (child == -1) return now.seen.clear();
        if (isNobody(child)) return NONE;
        if (isOutside(holds, 0, LARGEST) || isOutside(n, 0, 20)) return BAD;
        if (now.seen.isFull()) return FULL;
        return now.seen.add(child, holds, n);
    }

    public int who(int h, int n) {
        if (isOutside(h, 0, LARGEST) || isOutside(n, 0, 40)) return BAD;
        int bits = 0;
        for (int c = 0; c < now.size; c++) {
            if (holdsBehind(c, n) == h) bits |= 1 << c;
        }
        return bits;
    }

    public int firm(int child, int what) {
        if (isNobody(child) || isOutside(what, 0, 1)) return NONE;
        int many = 0;
        int least = NOT_ANY;
        for (int v = 9; v >= 0; v--) {
            if (isAllSeen(child, v, now.children[child].pieces)) {
                many++;
                least = v;
            }
        }
        return what == 0 ? many : least;
    }

    public int had(int child) {
        if (isNobody(child)) return NONE;
        int bits = 0;
        for (int p = 0; p <= MOST_PIECES; p++) {
            if (isAllSeen(child, now.children[child].v, p)) bits |= 1 << p;
        }
        return bits;
    }

    public long mean(int n, int part) {
        if (isOutside(n, 0, LONGEST) || isOutside(part, 0, 1) || now.size == 0) return NO;
        return fraction(sumBehind(n), now.size, part);
    }

    // ---- plans, books

    public int plan(int what, int child) {
        if (what == -1) return now.plan.clear();
        if (isOutside(what, 0, 3) || (what != 0 && isNobody(child))) return NONE;
        if (now.plan.isFull()) return FULL;
        return now.plan.add(what, child, 0);
    }

    public int done(int what) {
        if (isOutside(what, 0, 1)) return NONE;
        int sum = 0;
        for (int c = 0; c < now.size; c++) {
            trial.copy(now.children[c]);
            tryPlan();
            sum += what == 0 ? trial.bubble : trial.hair - now.children[c].hair;
        }
        return sum;
    }

    public int book(int child, int size) {
        if (child == -1) return now.book.clear();
        if (isNobody(child)) return NONE;
        if (isOutside(size, 0, LARGEST)) return BAD;
        if (now.book.isFull()) return FULL;
        return now.book.add(child, size, 0);
    }

    public int looked() {
        for (int i = 0; i < now.book.count; i++) {
            int child = now.book.cell(i, 0);
            if (!isNobody(child) && now.children[child].bubble != now.book.cell(i, 1)) return i;
        }
        return NOT_ANY;
    }

    // ---- acts, the image

    public int act(int child, int act, int x) {
        trace.clear();
        if (isNobody(child)) return 0;
        Child one = now.children[child];
        switch (act) {
            case 0: return one.kind.chews(trace, one, x);
            case 1: return one.kind.blows(trace, one, x);
            case 2: return one.kind.tells(trace, one, x);
            default: return 0;
        }
    }

    public int trace(int i) {
        return trace.isKept(i) ? trace.cell(i, 0) : NONE;
    }

    public int as(int child, int k) {
        if (isNobody(child) || isOutside(k, 0, KINDS - 1)) return NONE;
        Child one = now.children[child];
        return isUnder(one.kind, k) ? one.v : OTHER_KIND;
    }

    public int image() {
        kept.copy(now);
        hasImage = true;
        return now.size;
    }

    public int undo() {
        if (!hasImage) return STATE;
        now.copy(kept);
        return now.size;
    }

    public int count(int what) {
        switch (what) {
            case 0: return now.size;
            case 1: return now.afternoons;
            case 2: return now.seen.count;
            case 3: return now.plan.count;
            case 4: return now.book.count;
            case 5: return now.tapeSize;
            case 6: return trace.count;
            default: return NONE;
        }
    }

    // ---- what several calls have in common

    private static boolean isOutside(int n, int least, int most) {
        return n < least || n > most;
    }

    private boolean isNobody(int child) {
        return isOutside(child, 0, now.size - 1);
    }

    private int bubbleBits() {
        int bits = 0;
        for (int c = 0; c < now.size; c++) {
            if (now.children[c].bubble > 0) bits |= 1 << c;
        }
        return bits;
    }

    private int holdsNow(int child) {
        return now.children[child].holds(now.afternoon, now.minute);
    }

    /** HOLDS behind so many minutes; the trial one is left as the child is then. */
    private int holdsBehind(int child, int minutes) {
        trial.copy(now.children[child]);
        return trialBehind(minutes);
    }

    private int trialBehind(int minutes) {
        for (int i = 0; i < minutes; i++) trial.passMinute(now.minute + i);
        return trial.holds(now.afternoon, now.minute + minutes);
    }

    private int sumBehind(int minutes) {
        int sum = 0;
        for (int c = 0; c < now.size; c++) sum += holdsBehind(c, minutes);
        return sum;
    }

    /** WHEN of the trial one: what 0 behind how many minutes, 1 how much. */
    private int trialWhen(int what) {
        int most = -1;
        int minutes = 0;
        for (int i = 0; i <= LONGEST; i++) {
            int holds = trial.holds(now.afternoon, now.minute + i);
            if (holds > most) {
                most = holds;
                minutes = i;
            }
            trial.passMinute(now.minute + i);
        }
        return what == 0 ? minutes : most;
    }

    private static int thinned(int holds, int d) {
        return Math.max(0, holds - 5 * d);
    }

    private static int thinsBearing(int holds, int n) {
        return THINS - thinsBelow(holds, n);
    }

    /** For how many d a thin place of d leaves less than n. */
    private static int thinsBelow(int holds, int n) {
        int many = 0;
        for (int d = 0; d < THINS; d++) {
            if (thinned(holds, d) < n) many++;
        }
        return many;
    }

    private static long fraction(int above, int below, int part) {
        int common = greatestCommon(above, below);
        if (common == 0) return NO;
        return part == 0 ? above / common : below / common;
    }

    private static int greatestCommon(int a, int b) {
        // By Euclid's way two ints are done long before a hundred steps.
        for (int i = 0; i < 100 && b != 0; i++) {
            int rest = a % b;
            a = b;
            b = rest;
        }
        return a;
    }

    private int holdsWithGumOf(int child, int other) {
        trial.copy(now.children[child]);
        trial.pieces = now.children[other].pieces;
        trial.sugar = now.children[other].sugar;
        return trialBehind(0);
    }

    private void fillBehind(int child) {
        trial.copy(now.children[child]);
        for (int k = 0; k < now.size; k++) {
            behind[child * MOST_CHILDREN + k] = trial.holds(now.afternoon, now.minute + k);
            trial.passMinute(now.minute + k);
        }
    }

    /** Tries everyone not yet taken at place k, in rising order, so that the first best row stays. */
    private void arrange(int k, int taken, int sum) {
        if (k >= now.size || k >= MOST_CHILDREN) {
            if (sum > bestSum) {
                bestSum = sum;
                System.arraycopy(tried, 0, best, 0, MOST_CHILDREN);
            }
            return;
        }
        for (int c = 0; c < now.size; c++) {
            if (((taken >> c) & 1) != 0) continue;
            tried[k] = c;
            arrange(k + 1, taken | (1 << c), sum + behind[c * MOST_CHILDREN + k]);
        }
    }

    /** Whether all of SEEN is so, were v and pieces the one's now. */
    private boolean isAllSeen(int one, int v, int pieces) {
        for (int i = 0; i < now.seen.count; i++) {
            int child = now.seen.cell(i, 0);
            if (isNobody(child)) continue;
            trial.copy(now.children[child]);
            if (child == one) {
                trial.v = v;
                trial.pieces = pieces;
            }
            if (trialBehind(now.seen.cell(i, 2)) != now.seen.cell(i, 1)) return false;
        }
        return true;
    }

    /** Runs the PLAN for the trial one alone: nobody's rows but its own, and the minutes, change it. */
    private void tryPlan() {
        int minute = now.minute;
        for (int i = 0; i < now.plan.count; i++) {
            int what = now.plan.cell(i, 0);
            if (what == 0) {
                trial.passMinute(minute);
                minute++;
            } else if (now.plan.cell(i, 1) == trial.number) {
                tryPlanRow(what, minute);
            }
        }
    }

    private void tryPlanRow(int what, int minute) {
        if (what == 1) {
            trial.pieces = Math.min(MOST_PIECES, trial.pieces + 1);
            trial.sugar = Math.min(MOST_SUGAR, trial.sugar + now.afternoon.sweet);
        } else if (what == 2) {
            trial.pieces = 0;
            trial.sugar = 0;
            trial.bubble = 0;
        } else {
            trial.breathe(10, trial.holds(now.afternoon, minute));
        }
    }

    private static boolean isUnder(Plain kind, int k) {
        switch (k) {
            case 0: return true;
            case 1: return kind instanceof Quick;
            case 2: return kind instanceof Slow;
            case 3: return kind instanceof Cold;
            case 4: return kind instanceof Greedy;
            case 5: return kind instanceof Careful;
            case 6: return kind instanceof Told;
            default: return false;
        }
    }

    /** All that an image keeps. */
    private static final class Scene {
        int minute;
        int size;
        final Child[] children = new Child[MOST_CHILDREN];
        final int[] tape = new int[100];
        int tapeSize;
        int afternoons;
        /** The one that holds; one without clauses while there is none. */
        Afternoon afternoon = new Afternoon();
        final Rows seen = new Rows(MOST_SEEN);
        final Rows plan = new Rows(MOST_PLAN);
        final Rows book = new Rows(MOST_BOOK);

        Scene(Plain plain) {
            for (int c = 0; c < MOST_CHILDREN; c++) children[c] = new Child(c, plain);
        }

        void copy(Scene other) {
            minute = other.minute;
            size = other.size;
            for (int c = 0; c < MOST_CHILDREN; c++) children[c].copy(other.children[c]);
            afternoons = other.afternoons;
            // An afternoon never changes once it is read, so both may have the same one.
            afternoon = other.afternoon;
            System.arraycopy(other.tape, 0, tape, 0, tape.length);
            tapeSize = other.tapeSize;
            seen.copy(other.seen);
            plan.copy(other.plan);
            book.copy(other.book);
        }
    }

    /** Rows of up to three numbers, in the order in which they came; counts all, keeps the first ones. */
    private static final class Rows {
        private static final int WIDTH = 3;
        private final int limit;
        private final int[] cells;
        int count;

        Rows(int limit) {
            this.limit = limit;
            cells = new int[Math.max(0, limit) * WIDTH];
        }

        boolean isFull() {
            return count >= limit;
        }

        boolean isKept(int row) {
            return row >= 0 && row < count && row < limit;
        }

        int cell(int row, int column) {
            if (!isKept(row) || column < 0 || column >= WIDTH) return 0;
            return cells[row * WIDTH + column];
        }

        int add(int a, int b, int c) {
            if (count < limit) {
                cells[count * WIDTH] = a;
                cells[count * WIDTH + 1] = b;
                cells[count * WIDTH + 2] = c;
            }
            count++;
            return count;
        }

        int clear() {
            count = 0;
            return 0;
        }

        void copy(Rows other) {
            System.arraycopy(other.cells, 0, cells, 0, Math.min(cells.length, other.cells.length));
            count = other.count;
        }
    }

    /** How one child is; what its kind does is told by the kind. */
    private static final class Child {
        int number;
        Plain kind;
        int v;
        int pieces;
        int sugar;
        int jaw;
        int bubble;
        int hair;
        final int[] row = new int[4];

        Child(int number, Plain kind) {
            this.number = number;
            this.kind = kind;
        }

        void begin(Plain kind, int v, int sugar) {
            this.kind = kind;
            this.v = v;
            this.pieces = 1;
            this.sugar = sugar;
            this.jaw = 0;
            this.bubble = 0;
            this.hair = 0;
            for (int k = 0; k < row.length; k++) row[k] = 0;
        }

        void copy(Child other) {
            number = other.number;
            kind = other.kind;
            v = other.v;
            pieces = other.pieces;
            sugar = other.sugar;
            jaw = other.jaw;
            bubble = other.bubble;
            hair = other.hair;
            System.arraycopy(other.row, 0, row, 0, row.length);
        }

        int holds(Afternoon afternoon, int minute) {
            int stretch = afternoon.stretchOf(this, minute);
            int bears = pieces * stretch - sugar - jaw / 2 - afternoon.wind;
            return kind.dares(Math.max(0, bears));
        }

        void passMinute(int minute) {
            if (bubble > 0) {
                bubble = Math.max(0, bubble - v - 1);
            } else if (pieces > 0) {
                sugar = Math.max(0, sugar - kind.sugarChewed(this, minute));
                jaw = Math.min(MOST_JAW, jaw + kind.jawTired(this));
            } else {
                jaw = Math.max(0, jaw - 5);
            }
        }

        /** Answers whether the bubble bursts. */
        boolean breathe(int n, int holds) {
            bubble += n;
            if (bubble <= holds) return false;
            hair = Math.min(MOST_HAIR, hair + bubble / 10);
            bubble = 0;
            return true;
        }
    }

    /** The kind CHILD, which all others are under. */
    private static class Plain {
        final int number;

        Plain(int number) {
            this.number = number;
        }

        int sugarChewed(Child one, int minute) {
            return 3 + one.v / 2;
        }

        int jawTired(Child one) {
            return one.pieces;
        }

        /** How much of what the gum bears this kind makes use of. */
        int dares(int bears) {
            return bears;
        }

        int chews(Rows trace, Child one, int x) {
            trace.add(1, 0, 0);
            return x + one.number;
        }

        int blows(Rows trace, Child one, int x) {
            trace.add(2, 0, 0);
            return chews(trace, one, x) - one.v;
        }

        int tells(Rows trace, Child one, int x) {
            trace.add(3, 0, 0);
            return blows(trace, one, x) * 2;
        }
    }

    private static class Quick extends Plain {
        Quick(int number) {
            super(number);
        }

        int sugarChewed(Child one, int minute) {
            return 2 * super.sugarChewed(one, minute);
        }

        int jawTired(Child one) {
            return one.pieces + 1;
        }

        int chews(Rows trace, Child one, int x) {
            trace.add(11, 0, 0);
            return super.chews(trace, one, x * 3);
        }
    }

    private static class Slow extends Plain {
        Slow(int number) {
            super(number);
        }

        int sugarChewed(Child one, int minute) {
            return super.sugarChewed(one, minute) / 2;
        }

        int blows(Rows trace, Child one, int x) {
            trace.add(21, 0, 0);
            return -super.blows(trace, one, x);
        }
    }

    private static class Cold extends Plain {
        Cold(int number) {
            super(number);
        }

        int sugarChewed(Child one, int minute) {
            return Math.max(0, super.sugarChewed(one, minute) - 2);
        }

        int jawTired(Child one) {
            return 2 * one.pieces;
        }

        int tells(Rows trace, Child one, int x) {
            trace.add(31, 0, 0);
            return super.tells(trace, one, x) ^ 7;
        }
    }

    private static final class Greedy extends Quick {
        Greedy(int number) {
            super(number);
        }

        int sugarChewed(Child one, int minute) {
            return super.sugarChewed(one, minute) + one.pieces;
        }

        int tells(Rows trace, Child one, int x) {
            trace.add(41, 0, 0);
            return super.tells(trace, one, x - 1) + chews(trace, one, 2);
        }
    }

    private static final class Careful extends Slow {
        Careful(int number) {
            super(number);
        }

        int sugarChewed(Child one, int minute) {
            return super.sugarChewed(one, minute) + 1;
        }

        int jawTired(Child one) {
            return one.pieces / 2;
        }

        int dares(int bears) {
            return Math.max(0, bears - 10);
        }

        int chews(Rows trace, Child one, int x) {
            trace.add(51, 0, 0);
            return super.chews(trace, one, x) ^ one.number;
        }
    }

    private static final class Told extends Cold {
        Told(int number) {
            super(number);
        }

        int sugarChewed(Child one, int minute) {
            return super.sugarChewed(one, minute) + one.row[minute & 3];
        }

        int blows(Rows trace, Child one, int x) {
            trace.add(61, 0, 0);
            return super.blows(trace, one, x) + one.v;
        }
    }

    /** The clauses of one afternoon; what stretches when stands in code for a stack of truths. */
    private static final class Afternoon {
        private static final int MOST_CLAUSES = 10, MOST_CODE = 100, MOST_OPEN = 5;
        private static final int NOT = -1, AND = -2, OR = -3;
        private static final String LETTERS = "ckvpsm", SIGNS = "<=>";

        int wind = 0;
        int sweet = 20;
        private int changes;
        private final int[] amounts = new int[MOST_CLAUSES];
        private final int[] ends = new int[MOST_CLAUSES];
        private final int[] code = new int[MOST_CODE];
        private int codeSize;
        private int[] tape = new int[0];
        private int size;
        private int at;

        /** Answers the fault's place, -1 if there is none. */
        int read(int[] from, int many) {
            tape = from;
            size = Math.min(many, from.length);
            for (int i = 0; i < MOST_CLAUSES; i++) {
                if (i > 0 && !take(';')) return at;
                if (!readClause()) return at;
                if (at >= size) return -1;
            }
            return at;
        }

        int stretchOf(Child one, int minute) {
            int stretch = 30;
            int from = 0;
            for (int i = 0; i < changes; i++) {
                if (isSo(from, ends[i], one, minute)) stretch += amounts[i];
                from = ends[i];
            }
            return Math.max(1, stretch);
        }

        private boolean readClause() {
            if (next() == 'w') {
                int n = readWordAndNumber("wind ");
                wind = n;
                return n >= 0;
            }
            if (!take('s')) return false;
            if (next() == 'w') {
                int n = readWordAndNumber("weet ");
                sweet = n;
                return n >= 0;
            }
            if (!take('t')) return false;
            boolean stretches = next() == 'r';
            int n = readWordAndNumber(stretches ? "retch " : "iff ");
            if (n < 0 || !take(' ') || !readEither(0)) return false;
            addChange(stretches ? n : -n);
            return true;
        }

        /** The number's value; -1, and the place is the fault's, if word or number is not there. */
        private int readWordAndNumber(String word) {
            for (int i = 0; i < word.length(); i++) {
                if (!take(word.charAt(i))) return -1;
            }
            return readNumber();
        }

        private int readNumber() {
            int first = next();
            if (first < '0' || first > '9') return -1;
            at++;
            int second = next();
            if (first == '0' || second < '0' || second > '9') return first - '0';
            at++;
            return 10 * (first - '0') + second - '0';
        }

        private boolean readEither(int open) {
            if (!readFactor(open)) return false;
            // & binds closer: an OR is put only when all that is joined by & to its right is there.
            boolean waits = false;
            for (int i = at; i < size; i++) {
                if (take('&')) {
                    if (!readFactor(open)) return false;
                    put(AND);
                } else if (take('|')) {
                    if (waits) put(OR);
                    waits = true;
                    if (!readFactor(open)) return false;
                } else {
                    break;
                }
            }
            if (waits) put(OR);
            return true;
        }

        private boolean readFactor(int open) {
            int sign = next();
            if (sign != '!' && sign != '(') return readTest();
            if (open >= MOST_OPEN) return false;
            at++;
            if (sign == '(') return readEither(open + 1) && take(')');
            if (!readFactor(open + 1)) return false;
            put(NOT);
            return true;
        }

        private boolean readTest() {
            int letter = readOneOf(LETTERS);
            if (letter < 0) return false;
            int sign = readOneOf(SIGNS);
            if (sign < 0) return false;
            int n = readNumber();
            if (n < 0) return false;
            put(1000 * letter + 100 * sign + n);
            return true;
        }

        private int readOneOf(String signs) {
            if (at >= size) return -1;
            int place = signs.indexOf((char) tape[at]);
            if (place >= 0) at++;
            return place;
        }

        private boolean take(char sign) {
            if (next() != sign) return false;
            at++;
            return true;
        }

        private int next() {
            return at >= 0 && at < size ? tape[at] : -1;
        }

        private void put(int step) {
            if (codeSize >= MOST_CODE) return;
            code[codeSize] = step;
            codeSize++;
        }

        private void addChange(int amount) {
            if (changes >= MOST_CLAUSES) return;
            amounts[changes] = amount;
            ends[changes] = codeSize;
            changes++;
        }

        private boolean isSo(int from, int to, Child one, int minute) {
            // A stack of truths as bits, the newest lowest; five open ones need no more than 13 of them.
            int truths = 0;
            for (int i = from; i < to; i++) {
                int step = code[i];
                if (step == NOT) {
                    truths ^= 1;
                } else if (step == AND) {
                    truths = (truths & 1) == 1 ? truths >> 1 : (truths >> 1) & ~1;
                } else if (step == OR) {
                    truths = (truths >> 1) | (truths & 1);
                } else {
                    truths = (truths << 1) | (passes(step, one, minute) ? 1 : 0);
                }
            }
            return (truths & 1) == 1;
        }

        private static boolean passes(int step, Child one, int minute) {
            int value;
            switch (step / 1000) {
                case 0: value = one.number; break;
                case 1: value = one.kind.number; break;
                case 2: value = one.v; break;
                case 3: value = one.pieces; break;
                case 4: value = one.sugar / 10; break;
                default: value = minute % 10; break;
            }
            int number = step % 100;
            switch (step / 100 % 10) {
                case 0: return value < number;
                case 1: return value == number;
                default: return value > number;
            }
        }
    }
}
