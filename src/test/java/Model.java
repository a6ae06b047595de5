import java.util.ArrayList;
import java.util.List;
import java.util.regex.Matcher;
import java.util.regex.Pattern;

/** The document told once more, slowly and with copies of everything, for ModelTest to compare with. */
final class Model {
    static final class Kid {
        int no, kind, v, pieces = 1, sugar, jaw, bubble, hair;
        int[] row = new int[4];

        Kid copy() {
            Kid k = new Kid();
            k.no = no; k.kind = kind; k.v = v; k.pieces = pieces; k.sugar = sugar; k.jaw = jaw; k.bubble = bubble;
            k.hair = hair; k.row = row.clone();
            return k;
        }
    }

    static final class World {
        List<Kid> kids = new ArrayList<>();
        int minute;
        String tape = "";
        List<String> afternoons = new ArrayList<>();
        List<int[]> seen = new ArrayList<>(), plan = new ArrayList<>(), book = new ArrayList<>();

        World copy() {
            World w = new World();
            for (Kid k : kids) w.kids.add(k.copy());
            w.minute = minute;
            w.tape = tape;
            w.afternoons.addAll(afternoons);
            w.seen.addAll(seen);
            w.plan.addAll(plan);
            w.book.addAll(book);
            return w;
        }

        String[] clauses() {
            return afternoons.isEmpty() ? new String[0] : afternoons.get(afternoons.size() - 1).split(";");
        }

        int last(String word, int none) {
            for (String c : clauses()) if (c.startsWith(word + " ")) none = Integer.parseInt(c.split(" ")[1]);
            return none;
        }

        int stretch(Kid k) {
            int sum = 30;
            for (String c : clauses()) {
                String[] parts = c.split(" ");
                if (parts.length == 3 && so(parts[2], k)) {
                    sum += (parts[0].equals("stretch") ? 1 : -1) * Integer.parseInt(parts[1]);
                }
            }
            return sum < 1 ? 1 : sum;
        }

        /** Splits at the outermost | , then &, then looks at what is left. */
        boolean so(String e, Kid k) {
            int cut = outermost(e, '|');
            if (cut >= 0) return so(e.substring(0, cut), k) | so(e.substring(cut + 1), k);
            cut = outermost(e, '&');
            if (cut >= 0) return so(e.substring(0, cut), k) & so(e.substring(cut + 1), k);
            if (e.startsWith("!")) return !so(e.substring(1), k);
            if (e.startsWith("(")) return so(e.substring(1, e.length() - 1), k);
            int is = switch (e.charAt(0)) {
                case 'c' -> k.no;
                case 'k' -> k.kind;
                case 'v' -> k.v;
                case 'p' -> k.pieces;
                case 's' -> k.sugar / 10;
                default -> minute % 10;
            };
            int n = Integer.parseInt(e.substring(2));
            return e.charAt(1) == '<' ? is < n : e.charAt(1) == '=' ? is == n : is > n;
        }

        static int outermost(String e, char sign) {
            int depth = 0;
            for (int i = 0; i < e.length(); i++) {
                char c = e.charAt(i);
                if (c == '(') depth++;
                if (c == ')') depth--;
                if (c == sign && depth == 0) return i;
            }
            return -1;
        }

        int chews(Kid k) {
            return chews(k, k.kind);
        }

        private int chews(Kid k, int as) {
            return switch (as) {
                case 0 -> 3 + k.v / 2;
                case 1 -> 2 * chews(k, 0);
                case 2 -> chews(k, 0) / 2;
                case 3 -> Math.max(0, chews(k, 0) - 2);
                case 4 -> chews(k, 1) + k.pieces;
                case 5 -> chews(k, 2) + 1;
                default -> chews(k, 3) + k.row[minute % 4];
            };
        }

        int tires(Kid k) {
            int[] by = {k.pieces, k.pieces + 1, k.pieces, 2 * k.pieces, k.pieces + 1, k.pieces / 2, 2 * k.pieces};
            return by[k.kind];
        }

        int holds(Kid k) {
            int h = k.pieces * stretch(k) - k.sugar - k.jaw / 2 - last("wind", 0);
            if (h < 0) h = 0;
            if (k.kind == 5) h -= 10;
            return h < 0 ? 0 : h;
        }

        int holds(int c) {
            return holds(kids.get(c));
        }

        int together() {
            int sum = 0;
            for (Kid k : kids) sum += holds(k);
            return sum;
        }

        void minute() {
            for (Kid k : kids) {
                boolean chewing = k.bubble == 0 && k.pieces > 0, resting = k.bubble == 0 && k.pieces == 0;
                int sugar = chews(k), jaw = tires(k);
                if (chewing) {
                    k.sugar -= Math.min(k.sugar, sugar);
                    k.jaw += jaw;
                    if (k.jaw > 99) k.jaw = 99;
                } else if (resting) {
                    k.jaw -= Math.min(5, k.jaw);
                } else {
                    k.bubble -= Math.min(k.bubble, k.v + 1);
                }
            }
            minute++;
        }

        World behind(int n) {
            World w = copy();
            for (int i = 0; i < n; i++) w.minute();
            return w;
        }

        boolean breath(Kid k, int n) {
            int large = k.bubble + n;
            k.bubble = large > holds(k) ? 0 : large;
            if (k.bubble == 0) k.hair = Math.min(9999, k.hair + large / 10);
            return k.bubble == 0;
        }

        boolean allSeen() {
            for (int[] s : seen) if (behind(s[2]).holds(s[0]) != s[1]) return false;
            return true;
        }

        int[] when(int c) {
            int[] best = {-1, -1};
            World w = copy();
            for (int i = 0; i <= 60; i++, w.minute()) {
                if (w.holds(c) > best[1]) best = new int[] {i, w.holds(c)};
            }
            return best;
        }
    }

    World w = new World(), image;
    List<Integer> trace = new ArrayList<>();

    private boolean nobody(int c) {
        return c < 0 || c >= w.kids.size();
    }

    private static boolean out(int n, int a, int b) {
        return n < a || n > b;
    }

    int feed(int sign) {
        if (out(sign, 0, 127)) return -2;
        if (w.tape.length() == 100) return -4;
        w.tape += (char) sign;
        return w.tape.length();
    }

    int afternoon() {
        if (w.afternoons.size() == 5) return -4;
        String t = w.tape;
        w.tape = "";
        int fault = fault(t);
        if (fault >= 0) return -10 - fault;
        w.afternoons.add(t);
        return w.afternoons.size() - 1;
    }

    private static final String NUMBER = "(0|[1-9][0-9]?)";
    private static final Pattern CLAUSE = Pattern.compile("(wind|sweet) " + NUMBER + "|(stretch|stiff) " + NUMBER + " (.+)");
    private static final Pattern TEST = Pattern.compile("[ckvpsm][<=>](0|[1-9][0-9]?)(?![0-9])");

    /** The whole text is an afternoon: no grammar is walked, tests and joins are folded into one T. */
    static boolean isAfternoon(String text) {
        String[] clauses = text.split(";", -1);
        if (clauses.length > 10) return false;
        for (String c : clauses) {
            Matcher m = CLAUSE.matcher(c);
            if (!m.matches()) return false;
            if (m.group(5) != null && !isE(m.group(5))) return false;
        }
        return true;
    }

    static boolean isE(String e) {
        if (e.indexOf('T') >= 0) return false;
        String t = TEST.matcher(e).replaceAll("T");
        if (mostOpen(t) > 5) return false;
        for (String was = ""; !was.equals(t); ) {
            was = t;
            t = t.replace("!T", "T").replace("(T)", "T").replace("T&T", "T").replace("T|T", "T");
        }
        return t.equals("T");
    }

    static int mostOpen(String t) {
        String open = "";
        int most = 0;
        for (char c : t.toCharArray()) {
            if (c == '!' || c == '(') open += c;
            most = Math.max(most, open.length());
            if (c == ')' && open.endsWith("(")) open = open.substring(0, open.length() - 1);
            if (c == ')' || c == 'T') while (open.endsWith("!")) open = open.substring(0, open.length() - 1);
        }
        return most;
    }

    /** The place of the first sign with which no way to go on makes an afternoon of it. */
    static int fault(String text) {
        if (isAfternoon(text)) return -1;
        for (int n = 1; n <= text.length(); n++) if (!canGoOn(text.substring(0, n))) return n - 1;
        return text.length();
    }

    static boolean canGoOn(String start) {
        for (String whole : new String[] {"wind 1", "sweet 1", "stretch 1 c=1", "stiff 1 c=1"}) {
            for (int from = 0; from <= whole.length(); from++) {
                String more = start + whole.substring(from);
                for (int k = 0; k <= 5; k++, more += ")") if (isAfternoon(more)) return true;
            }
        }
        return false;
    }

    int child(int kind, int v) {
        if (out(kind, 0, 6)) return -1;
        if (out(v, 0, 9)) return -2;
        if (w.kids.size() == 5) return -4;
        Kid k = new Kid();
        k.no = w.kids.size();
        k.kind = kind;
        k.v = v;
        k.sugar = w.last("sweet", 20);
        w.kids.add(k);
        return k.no;
    }

    int of(int c, int what) {
        if (nobody(c) || out(what, 0, 10)) return -1;
        Kid k = w.kids.get(c);
        return new int[] {k.kind, k.v, k.pieces, k.sugar, k.jaw, k.bubble, k.hair, w.stretch(k), w.chews(k), w.tires(k),
            w.holds(k)}[what];
    }

    int row(int c, int k, int n) {
        if (nobody(c) || out(k, 0, 3)) return -1;
        if (out(n, 0, 9)) return -2;
        Kid kid = w.kids.get(c);
        if (kid.kind != 6) return -3;
        int was = kid.row[k];
        kid.row[k] = n;
        return was;
    }

    int set(int c, int what, int n) {
        if (nobody(c) || out(what, 0, 2)) return -1;
        if (out(n, 0, new int[] {6, 999, 99}[what])) return -2;
        int was = of(c, what + 2);
        if (what == 0) w.kids.get(c).pieces = n;
        if (what == 1) w.kids.get(c).sugar = n;
        if (what == 2) w.kids.get(c).jaw = n;
        return was;
    }

    int told(int what) {
        if (out(what, 0, 4)) return -1;
        int bits = 0;
        for (Kid k : w.kids) bits += k.bubble > 0 ? 1 << k.no : 0;
        return new int[] {w.minute, w.last("wind", 0), w.last("sweet", 20), w.together(), bits}[what];
    }

    int blow(int c, int n) {
        if (nobody(c)) return -1;
        if (out(n, 1, 99)) return -2;
        if (w.kids.get(c).pieces == 0) return -3;
        return w.breath(w.kids.get(c), n) ? -6 : w.kids.get(c).bubble;
    }

    int pass(int n) {
        if (out(n, 0, 60)) return -2;
        if (w.minute + n > 9999) return -3;
        w = w.behind(n);
        return w.minute;
    }

    int on(int n, int what) {
        boolean one = what >= 10 && what < 10 + w.kids.size(), sugar = what >= 20 && what < 20 + w.kids.size();
        if (what != 0 && !one && !sugar) return -1;
        if (out(n, 0, 60)) return -2;
        World then = w.behind(n);
        return what == 0 ? then.together() : one ? then.holds(what - 10) : then.kids.get(what - 20).sugar;
    }

    int when(int c, int what) {
        return nobody(c) || out(what, 0, 1) ? -1 : w.when(c)[what];
    }

    int soon(int c, int n) {
        if (nobody(c)) return -1;
        if (out(n, 1, 999)) return -2;
        for (int i = 0; i <= 60; i++) if (w.behind(i).holds(c) >= n) return i;
        return -5;
    }

    int pieces(int c, int what) {
        if (nobody(c) || out(what, 0, 1)) return -1;
        int[] best = {-1, -1};
        for (int p = 0; p < 7; p++) {
            World t = w.copy();
            t.kids.get(c).pieces = p;
            t.kids.get(c).sugar = p * w.last("sweet", 20);
            t.kids.get(c).bubble = 0;
            int much = t.when(c)[1];
            if (much > best[1]) best = new int[] {p, much};
        }
        return best[what];
    }

    int breaths(int c, int n) {
        if (nobody(c)) return -1;
        if (out(n, 1, 99)) return -2;
        World t = w.copy();
        int many = 0;
        while (!t.breath(t.kids.get(c), n)) many++;
        return many;
    }

    int slack(int c) {
        return nobody(c) ? -10001 : w.holds(c) - w.kids.get(c).bubble;
    }

    private static long part(long a, long b, int part) {
        for (long d = b; d > 1; d--) {
            if (a % d == 0 && b % d == 0) {
                a /= d;
                b /= d;
            }
        }
        return part == 0 ? a : b;
    }

    private int bearing(int c, int n) {
        int many = 0;
        for (int d = 0; d <= 9; d++) if (n <= Math.max(0, w.holds(c) - 5 * d)) many++;
        return many;
    }

    long likely(int c, int n, int part) {
        if (nobody(c) || out(n, 0, 999) || out(part, 0, 1)) return Long.MIN_VALUE;
        return part(bearing(c, n), 10, part);
    }

    int dare(int c) {
        if (nobody(c)) return -1;
        int best = 0;
        for (int n = 0; n <= 999; n++) if (n * bearing(c, n) > best * bearing(c, best)) best = n;
        return best;
    }

    int first() {
        int f = -5;
        for (Kid k : w.kids) if (f < 0 || w.holds(k) > w.holds(f)) f = k.no;
        return f;
    }

    long beats(int a, int b, int part) {
        if (nobody(a) || nobody(b) || a == b || out(part, 0, 1)) return Long.MIN_VALUE;
        int more = 0;
        for (int i = 0; i < 100; i++) {
            int one = Math.max(0, w.holds(a) - 5 * (i / 10)), other = Math.max(0, w.holds(b) - 5 * (i % 10));
            if (one > other) more++;
        }
        return part(more, 100, part);
    }

    int swap() {
        int found = -5, most = w.together();
        for (int ij = 0; ij < 25; ij++) {
            int i = ij / 5, j = ij % 5;
            if (i >= j || j >= w.kids.size()) continue;
            World t = w.copy();
            Kid a = t.kids.get(i), b = t.kids.get(j);
            a.pieces = w.kids.get(j).pieces;
            a.sugar = w.kids.get(j).sugar;
            b.pieces = w.kids.get(i).pieces;
            b.sugar = w.kids.get(i).sugar;
            if (t.together() > most) {
                most = t.together();
                found = 10 * i + j;
            }
        }
        return found;
    }

    int order(int k) {
        if (out(k, -1, 4)) return -1;
        int n = w.kids.size(), most = -1;
        int[] best = null;
        World[] then = new World[n];
        for (int i = 0; i < n; i++) then[i] = w.behind(i);
        for (int code = 0; code < 3125; code++) {
            int[] row = new int[n];
            int bits = 0, sum = 0, rest = code;
            for (int i = n - 1; i >= 0; i--, rest /= 5) {
                row[i] = rest % 5;
                bits |= 1 << row[i];
                if (row[i] < n) sum += then[i].holds(row[i]);
            }
            if (rest == 0 && bits == (1 << n) - 1 && sum > most) {
                most = sum;
                best = row;
            }
        }
        return k == -1 ? most : k < n ? best[k] : -5;
    }

    int clean(int c, int n) {
        if (nobody(c)) return -1;
        if (out(n, 1, 99)) return -2;
        int many = 0;
        for (int hair = w.kids.get(c).hair; hair > 0; hair -= n) many++;
        return many;
    }

    int see(int c, int holds, int n) {
        if (c == -1) {
            w.seen.clear();
            return 0;
        }
        if (nobody(c)) return -1;
        if (out(holds, 0, 999) || out(n, 0, 20)) return -2;
        if (w.seen.size() == 5) return -4;
        w.seen.add(new int[] {c, holds, n});
        return w.seen.size();
    }

    int who(int h, int n) {
        if (out(h, 0, 999) || out(n, 0, 40)) return -2;
        World then = w.behind(n);
        int bits = 0;
        for (Kid k : then.kids) bits |= then.holds(k) == h ? 1 << k.no : 0;
        return bits;
    }

    int firm(int c, int what) {
        if (nobody(c) || out(what, 0, 1)) return -1;
        List<Integer> so = new ArrayList<>();
        for (int v = 0; v < 10; v++) {
            World t = w.copy();
            t.kids.get(c).v = v;
            if (t.allSeen()) so.add(v);
        }
        return what == 0 ? so.size() : so.isEmpty() ? -5 : so.get(0);
    }

    int had(int c) {
        if (nobody(c)) return -1;
        int bits = 0;
        for (int p = 0; p < 7; p++) {
            World t = w.copy();
            t.kids.get(c).pieces = p;
            bits |= t.allSeen() ? 1 << p : 0;
        }
        return bits;
    }

    long mean(int n, int part) {
        if (out(n, 0, 60) || out(part, 0, 1) || w.kids.isEmpty()) return Long.MIN_VALUE;
        return part(w.behind(n).together(), w.kids.size(), part);
    }

    int plan(int what, int c) {
        if (what == -1) {
            w.plan.clear();
            return 0;
        }
        if (out(what, 0, 3) || what > 0 && nobody(c)) return -1;
        if (w.plan.size() == 8) return -4;
        w.plan.add(new int[] {what, c});
        return w.plan.size();
    }

    int done(int what) {
        if (out(what, 0, 1)) return -1;
        World t = w.copy();
        for (int[] row : w.plan) {
            if (row[0] == 0) {
                t.minute();
                continue;
            }
            Kid k = t.kids.get(row[1]);
            if (row[0] == 1) {
                k.pieces += k.pieces < 6 ? 1 : 0;
                k.sugar = Math.min(999, k.sugar + w.last("sweet", 20));
            }
            if (row[0] == 2) k.pieces = k.sugar = k.bubble = 0;
            if (row[0] == 3) t.breath(k, 10);
        }
        int bubbles = 0, hair = 0;
        for (Kid k : t.kids) {
            bubbles += k.bubble;
            hair += k.hair - w.kids.get(k.no).hair;
        }
        return what == 0 ? bubbles : hair;
    }

    int book(int c, int size) {
        if (c == -1) {
            w.book.clear();
            return 0;
        }
        if (nobody(c)) return -1;
        if (out(size, 0, 999)) return -2;
        if (w.book.size() == 8) return -4;
        w.book.add(new int[] {c, size});
        return w.book.size();
    }

    int looked() {
        for (int i = 0; i < w.book.size(); i++) {
            if (w.kids.get(w.book.get(i)[0]).bubble != w.book.get(i)[1]) return i;
        }
        return -5;
    }

    /** Bodies by number; which kind has which: {chews, blows, tells}, 0: none of its own. */
    private static final int[][] OWN = {{1, 2, 3}, {11, 0, 0}, {0, 21, 0}, {0, 0, 31}, {0, 0, 41}, {51, 0, 0}, {0, 61, 0}};
    private static final int[] ABOVE = {-1, 0, 0, 0, 1, 2, 3};

    private int run(Kid k, int kind, int act, int x) {
        int body = OWN[kind][act];
        if (body == 0) return run(k, ABOVE[kind], act, x);
        trace.add(body);
        switch (body) {
            case 1: return x + k.no;
            case 2: return run(k, k.kind, 0, x) - k.v;
            case 3: return run(k, k.kind, 1, x) * 2;
            case 11: return run(k, 0, 0, x * 3);
            case 21: return -run(k, 0, 1, x);
            case 31: return run(k, 0, 2, x) ^ 7;
            case 41:
                int left = run(k, 1, 2, x - 1);
                return left + run(k, k.kind, 0, 2);
            case 51: return run(k, 2, 0, x) ^ k.no;
            default: return run(k, 3, 1, x) + k.v;
        }
    }

    int act(int c, int act, int x) {
        trace.clear();
        return nobody(c) || out(act, 0, 2) ? 0 : run(w.kids.get(c), w.kids.get(c).kind, act, x);
    }

    int trace(int i) {
        return i < 0 || i >= trace.size() || i >= 20 ? -1 : trace.get(i);
    }

    int as(int c, int k) {
        if (nobody(c) || out(k, 0, 6)) return -1;
        for (int kind = w.kids.get(c).kind; kind >= 0; kind = ABOVE[kind]) if (kind == k) return w.kids.get(c).v;
        return -6;
    }

    int image() {
        image = w.copy();
        return w.kids.size();
    }

    int undo() {
        if (image == null) return -3;
        w = image.copy();
        return w.kids.size();
    }

    int count(int what) {
        if (out(what, 0, 6)) return -1;
        return new int[] {w.kids.size(), w.afternoons.size(), w.seen.size(), w.plan.size(), w.book.size(), w.tape.length(),
            trace.size()}[what];
    }
}
