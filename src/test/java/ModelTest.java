import java.util.Random;

/** Random runs of calls, each answered by the class and by the slow model; the seeds stand here, so runs repeat. */
public final class ModelTest {
    private static final int RUNS = 300, CALLS = 512;
    private static final int[] ODD = {Integer.MIN_VALUE, Integer.MIN_VALUE + 12, -20, -2, -1, 0, 1, 2, 3, 4, 5, 6, 7, 8, 9,
        10, 11, 19, 20, 21, 25, 40, 41, 60, 61, 99, 100, 127, 128, 999, 1000, Integer.MAX_VALUE};

    private final Random random;
    private final GumBubble x = new GumBubble();
    private final Model m = new Model();
    private final StringBuilder told = new StringBuilder();
    /** What an object answers later than its 512th call is free. */
    private int left = CALLS;

    private ModelTest(long seed) {
        random = new Random(seed);
    }

    public static void main(String[] args) {
        int wrong = 0;
        for (int run = 0; run < RUNS && wrong < 5; run++) {
            if (!new ModelTest(run).agrees(run)) wrong++;
        }
        if (wrong != 0) System.exit(1);
        System.out.println("ModelTest: " + RUNS + " runs, all answers are as due");
    }

    private boolean agrees(int run) {
        boolean scripted = run % 2 == 0;
        while (left > 0) {
            if (scripted && random.nextInt(60) == 0 || left == CALLS && random.nextBoolean()) {
                String text = text();
                for (int i = 0; i < text.length() && left > 1; i++) {
                    if (!same("feed", x.feed(text.charAt(i)), m.feed(text.charAt(i)), text.charAt(i), 0, 0)) return false;
                }
                if (!same("afternoon", x.afternoon(), m.afternoon(), 0, 0, 0)) return false;
                continue;
            }
            if (!call(random.nextInt(left > CALLS - 60 ? 9 : 42))) return false;
        }
        return true;
    }

    private int n(int a, int b) {
        return random.nextInt(12) == 0 ? ODD[random.nextInt(ODD.length)] : a + random.nextInt(b - a + 1);
    }

    private int kid() {
        return n(0, 4);
    }

    private int toldOne() {
        for (int i = 0; i < 4; i++) {
            int child = kid();
            if (m.of(child, 0) == 6) return child;
        }
        return kid();
    }

    private boolean same(String name, long got, long due, int a, int b, int c) {
        left--;
        told.append(name).append('(').append(a).append(", ").append(b).append(", ").append(c).append(") ").append(due)
                .append('\n');
        if (got == due) return true;
        System.out.println("ModelTest: answered " + got + ":\n" + told);
        return false;
    }

    private boolean call(int which) {
        int a;
        int b;
        int c;
        switch (which) {
            case 0: a = n(0, 127); return same("feed", x.feed(a), m.feed(a), a, 0, 0);
            case 1: if (random.nextInt(8) > 0) return true; return same("afternoon", x.afternoon(), m.afternoon(), 0, 0, 0);
            case 2: case 38: case 39: case 40: case 41:
                if (m.w.kids.size() >= 2 + random.nextInt(4) && random.nextInt(10) > 0) {
                    a = kid(); b = n(1, 30); return same("blow", x.blow(a, b), m.blow(a, b), a, b, 0);
                }
                a = random.nextInt(3) == 0 ? 6 : n(0, 6); b = n(0, 9); return same("child", x.child(a, b), m.child(a, b), a, b, 0);
            case 3: a = kid(); b = n(0, 10); return same("of", x.of(a, b), m.of(a, b), a, b, 0);
            case 4: a = toldOne(); b = n(0, 3); c = n(0, 9); return same("row", x.row(a, b, c), m.row(a, b, c), a, b, c);
            case 5: a = kid(); b = n(0, 2); c = n(0, b == 0 ? 6 : b == 1 ? random.nextInt(20) == 0 ? 999 : 60 : 99);
                return same("set", x.set(a, b, c), m.set(a, b, c), a, b, c);
            case 6: a = n(0, 4); return same("told", x.told(a), m.told(a), a, 0, 0);
            case 7: a = kid(); b = n(1, 40); return same("blow", x.blow(a, b), m.blow(a, b), a, b, 0);
            case 8: a = n(0, random.nextInt(5) == 0 ? 60 : 5); return same("pass", x.pass(a), m.pass(a), a, 0, 0);
            case 9: a = n(0, 60); b = random.nextInt(3) * 10; b = b == 0 ? n(0, 0) : b + n(0, 4);
                return same("on", x.on(a, b), m.on(a, b), a, b, 0);
            case 10: a = kid(); b = n(0, 1); return same("when", x.when(a, b), m.when(a, b), a, b, 0);
            case 11: a = kid(); b = n(1, 200); return same("soon", x.soon(a, b), m.soon(a, b), a, b, 0);
            case 12: if (random.nextInt(4) > 0) return true;
                a = kid(); b = n(0, 1); return same("pieces", x.pieces(a, b), m.pieces(a, b), a, b, 0);
            case 13: a = kid(); b = n(1, 99); return same("breaths", x.breaths(a, b), m.breaths(a, b), a, b, 0);
            case 14: a = kid(); return same("slack", x.slack(a), m.slack(a), a, 0, 0);
            case 15: a = kid(); b = n(0, 120); c = n(0, 1); return same("likely", x.likely(a, b, c), m.likely(a, b, c), a, b, c);
            case 16: a = kid(); return same("dare", x.dare(a), m.dare(a), a, 0, 0);
            case 17: return same("first", x.first(), m.first(), 0, 0, 0);
            case 18: a = kid(); b = kid(); c = n(0, 1); return same("beats", x.beats(a, b, c), m.beats(a, b, c), a, b, c);
            case 19: return same("swap", x.swap(), m.swap(), 0, 0, 0);
            case 20: a = n(-1, 4); return same("order", x.order(a), m.order(a), a, 0, 0);
            case 21: a = kid(); b = n(1, 99); return same("clean", x.clean(a, b), m.clean(a, b), a, b, 0);
            case 22: return see();
            case 23: b = n(0, 40); a = seenNow(kid(), b, n(0, 999)); return same("who", x.who(a, b), m.who(a, b), a, b, 0);
            case 24: a = kid(); b = n(0, 1); return same("firm", x.firm(a, b), m.firm(a, b), a, b, 0);
            case 25: a = kid(); return same("had", x.had(a), m.had(a), a, 0, 0);
            case 26: a = n(0, 60); b = n(0, 1); return same("mean", x.mean(a, b), m.mean(a, b), a, b, 0);
            case 27: a = n(0, 3); if (a == -1 && random.nextInt(3) > 0) a = 1;
                b = kid(); return same("plan", x.plan(a, b), m.plan(a, b), a, b, 0);
            case 28: a = n(0, 1); return same("done", x.done(a), m.done(a), a, 0, 0);
            case 29: a = n(-1, 4); b = bubble(a); return same("book", x.book(a, b), m.book(a, b), a, b, 0);
            case 30: return same("looked", x.looked(), m.looked(), 0, 0, 0);
            case 31: case 32: a = kid(); b = n(0, 2); c = random.nextInt(3) == 0 ? random.nextInt() : n(-50, 50);
                return same("act", x.act(a, b, c), m.act(a, b, c), a, b, c) && traces();
            case 33: a = n(0, 8); return same("trace", x.trace(a), m.trace(a), a, 0, 0);
            case 34: a = kid(); b = n(0, 6); return same("as", x.as(a, b), m.as(a, b), a, b, 0);
            case 35: if (random.nextInt(4) > 0) return true; return same("image", x.image(), m.image(), 0, 0, 0);
            case 36: if (random.nextInt(5) > 0) return true; return same("undo", x.undo(), m.undo(), 0, 0, 0);
            default: a = n(0, 6); return same("count", x.count(a), m.count(a), a, 0, 0);
        }
    }

    private boolean traces() {
        for (int i = 0; i < 8 && left > 1; i++) if (!same("trace", x.trace(i), m.trace(i), i, 0, 0)) return false;
        return left == 0 || same("count", x.count(6), m.count(6), 6, 0, 0);
    }

    /** Mostly what will be so, or it were hardly ever so. */
    private boolean see() {
        int child = n(-1, 4);
        int minutes = n(0, 20);
        int holds = seenNow(child, minutes, n(0, 999));
        return same("see", x.see(child, holds, minutes), m.see(child, holds, minutes), child, holds, minutes);
    }

    private int seenNow(int child, int minutes, int otherwise) {
        if (random.nextInt(8) == 0 || child < 0 || child >= m.w.kids.size() || minutes < 0 || minutes > 60) return otherwise;
        return m.on(minutes, 10 + child);
    }

    private int bubble(int child) {
        if (random.nextInt(8) == 0 || child < 0 || child >= m.w.kids.size()) return n(0, 999);
        return m.of(child, 5);
    }

    private String text() {
        StringBuilder s = new StringBuilder(clause());
        for (int i = random.nextInt(random.nextInt(6) == 0 ? 12 : 4); i > 0; i--) s.append(';').append(clause());
        for (int i = random.nextInt(5) - 2; i > 0; i--) {
            int place = random.nextInt(s.length());
            char sign = "windswetrchf 0123456789;&|!()ckvpsm<=>".charAt(random.nextInt(38));
            if (random.nextBoolean()) s.setCharAt(place, sign);
            else if (random.nextBoolean()) s.insert(place, sign);
            else s.setLength(place + 1);
        }
        return s.toString();
    }

    private String clause() {
        switch (random.nextInt(6)) {
            case 0: return "wind " + random.nextInt(random.nextBoolean() ? 10 : 100);
            case 1: return "sweet " + random.nextInt(100);
            case 2: return "stiff " + random.nextInt(40) + " " + either(random.nextInt(7));
            default: return "stretch " + random.nextInt(100) + " " + either(random.nextInt(7));
        }
    }

    private String either(int deep) {
        switch (random.nextInt(4 + deep)) {
            case 4: return both(deep - 1) + "|" + either(deep - 1);
            case 5: return both(deep - 1) + "|" + both(deep - 1);
            default: return both(deep);
        }
    }

    private String both(int deep) {
        return random.nextInt(3) == 0 && deep > 0 ? factor(deep - 1) + "&" + both(deep - 1) : factor(deep);
    }

    private String factor(int deep) {
        if (deep > 0 && random.nextInt(2) == 0) return "!" + factor(deep - 1);
        if (deep > 0 && random.nextInt(2) == 0) return "(" + either(deep - 1) + ")";
        return "" + "ckvpsm".charAt(random.nextInt(6)) + "<=>".charAt(random.nextInt(3)) + random.nextInt(random.nextInt(5) == 0 ? 30 : 7);
    }
}
