import java.util.ArrayList;
import java.util.List;

/** Paragraph 3 of the Terms: each refusal, of several the first one told, and that they change nothing. */
public final class RefusalTest extends TestKit {
    private interface Call {
        long on(GumBubble x);
    }

    private static final int MIN = Integer.MIN_VALUE, MAX = Integer.MAX_VALUE;
    private static final int[] NOBODY = {-2, -3, MIN, MIN + 9, 5, 6, 10, 99, MAX};

    private static final List<String> names = new ArrayList<>();
    private static final List<Long> dues = new ArrayList<>();
    private static final List<Call> calls = new ArrayList<>();

    public static void main(String[] args) {
        afternoonsAndChildren();
        minutesToCome();
        thinPlaces();
        seenPlansAndBooks();
        actsAndImages();
        inTheScene();
        full();
        fullScene();
        nobodyAmongFewer();
        answersAreNotRefusals();
        end("RefusalTest");
    }

    /** Child 0 is TOLD, 1 has no PIECES, 2 has a BUBBLE, 3 a lot of SUGAR; MINUTE is 9950. */
    private static GumBubble scene() {
        GumBubble x = new GumBubble();
        read(x, "wind 2;sweet 9;stretch 3 c<2&m=1");
        x.child(6, 3);
        x.child(1, 4);
        x.child(5, 5);
        x.child(4, 6);
        x.child(0, 7);
        for (int i = 0; i < 165; i++) x.pass(60);
        x.pass(50);
        x.row(0, 1, 4);
        put(x, 0, 2, 12, 13);
        put(x, 1, 0, 40, 31);
        put(x, 2, 4, 5, 7);
        put(x, 3, 5, 44, 8);
        x.blow(4, 30);
        x.blow(2, 11);
        x.see(0, 9, 1);
        x.plan(3, 2);
        x.plan(0, 0);
        x.book(2, 11);
        x.book(1, 2);
        x.image();
        x.set(2, 1, 6);
        for (char c : "wind 7".toCharArray()) x.feed(c);
        x.act(3, 2, 9);
        return x;
    }

    /** All that can be seen of it, THE TAPE and THE IMAGE, too; changes it. */
    private static String told(GumBubble x) {
        StringBuilder s = new StringBuilder();
        look(x, s);
        s.append(" tape ").append(x.afternoon()).append(' ').append(x.told(1)).append(' ').append(x.undo());
        look(x, s);
        return s.toString();
    }

    private static void look(GumBubble x, StringBuilder s) {
        for (int c = 0; c < 5; c++) for (int what = 0; what <= 10; what++) s.append(x.of(c, what)).append(' ');
        for (int k = 0; k < 4; k++) s.append(x.on(k, 20)).append(' ');
        for (int what = 0; what <= 4; what++) s.append(x.told(what)).append(' ');
        for (int what = 0; what <= 6; what++) s.append(x.count(what)).append(' ');
        for (int i = 0; i < 7; i++) s.append(x.trace(i)).append(' ');
        for (int c = 0; c < 5; c++) s.append(x.had(c)).append(' ');
        s.append(x.done(0)).append(' ').append(x.done(1)).append(' ').append(x.looked());
    }

    private static void refused(String name, long due, Call call) {
        names.add(name);
        dues.add(due);
        calls.add(call);
    }

    /** The call with each child who isn't there; -1 only where that isn't a call of its own. */
    private interface ChildCall {
        long on(GumBubble x, int child);
    }

    private static void nobody(String name, long due, boolean isMinusOneTold, ChildCall call) {
        for (int child : NOBODY) refused(name + " of " + child, due, x -> call.on(x, child));
        if (!isMinusOneTold) refused(name + " of -1", due, x -> call.on(x, -1));
    }

    private static void outside(String name, long due, int least, int most, ChildCall call) {
        for (int n : new int[] {least - 1, most + 1, least - 100, most + 100, MIN, MAX}) {
            refused(name + " with " + n, due, x -> call.on(x, n));
        }
    }

    private static void afternoonsAndChildren() {
        outside("feed BAD", BAD, 0, 127, (x, n) -> x.feed(n));
        outside("child NONE: kind", NONE, 0, 6, (x, n) -> x.child(n, 0));
        outside("child NONE ahead of BAD", NONE, 0, 6, (x, n) -> x.child(n, 10));
        outside("child BAD: v, ahead of FULL", BAD, 0, 9, (x, n) -> x.child(0, n));
        refused("child FULL", FULL, x -> x.child(0, 0));
        nobody("of NONE", NONE, false, (x, c) -> x.of(c, 0));
        outside("of NONE: what", NONE, 0, 10, (x, n) -> x.of(0, n));
        nobody("row NONE", NONE, false, (x, c) -> x.row(c, 0, 0));
        nobody("row NONE ahead of BAD", NONE, false, (x, c) -> x.row(c, 0, 10));
        outside("row NONE: k", NONE, 0, 3, (x, n) -> x.row(0, n, 0));
        outside("row NONE: k ahead of BAD", NONE, 0, 3, (x, n) -> x.row(0, n, -1));
        outside("row NONE: k ahead of STATE", NONE, 0, 3, (x, n) -> x.row(1, n, 0));
        outside("row BAD", BAD, 0, 9, (x, n) -> x.row(0, 3, n));
        outside("row BAD ahead of STATE", BAD, 0, 9, (x, n) -> x.row(1, 0, n));
        for (int c = 1; c < 5; c++) {
            int other = c;
            refused("row STATE: another KIND", STATE, x -> x.row(other, 3, 9));
        }
        nobody("set NONE", NONE, false, (x, c) -> x.set(c, 0, 0));
        nobody("set NONE ahead of BAD", NONE, false, (x, c) -> x.set(c, 0, 7));
        outside("set NONE: what", NONE, 0, 2, (x, n) -> x.set(0, n, 0));
        outside("set NONE: what ahead of BAD", NONE, 0, 2, (x, n) -> x.set(0, n, -1));
        outside("set BAD: PIECES", BAD, 0, 6, (x, n) -> x.set(0, 0, n));
        outside("set BAD: SUGAR", BAD, 0, 999, (x, n) -> x.set(0, 1, n));
        outside("set BAD: JAW", BAD, 0, 99, (x, n) -> x.set(0, 2, n));
        outside("told NONE", NONE, 0, 4, (x, n) -> x.told(n));
        nobody("blow NONE", NONE, false, (x, c) -> x.blow(c, 1));
        nobody("blow NONE ahead of BAD", NONE, false, (x, c) -> x.blow(c, 0));
        outside("blow BAD", BAD, 1, 99, (x, n) -> x.blow(2, n));
        outside("blow BAD ahead of STATE", BAD, 1, 99, (x, n) -> x.blow(1, n));
        refused("blow STATE: no PIECES", STATE, x -> x.blow(1, 1));
        refused("blow STATE: no PIECES", STATE, x -> x.blow(1, 99));
        outside("pass BAD, ahead of STATE", BAD, 0, 60, (x, n) -> x.pass(n));
        refused("pass STATE", STATE, x -> x.pass(50));
        refused("pass STATE", STATE, x -> x.pass(60));
    }

    private static void minutesToCome() {
        for (int what : new int[] {-1, 1, 2, 5, 9, 15, 16, 19, 25, 26, 30, 99, -10, -20, MIN, MIN + 5, MIN + 10, MIN + 20, MAX}) {
            refused("on NONE: " + what, NONE, x -> x.on(0, what));
            refused("on NONE ahead of BAD: " + what, NONE, x -> x.on(61, what));
        }
        for (int what : new int[] {0, 10, 14, 20, 24}) outside("on BAD", BAD, 0, 60, (x, n) -> x.on(n, what));
        nobody("when NONE", NONE, false, (x, c) -> x.when(c, 0));
        outside("when NONE: what", NONE, 0, 1, (x, n) -> x.when(0, n));
        nobody("soon NONE", NONE, false, (x, c) -> x.soon(c, 1));
        nobody("soon NONE ahead of BAD", NONE, false, (x, c) -> x.soon(c, 0));
        outside("soon BAD", BAD, 1, 999, (x, n) -> x.soon(0, n));
        nobody("pieces NONE", NONE, false, (x, c) -> x.pieces(c, 0));
        outside("pieces NONE: what", NONE, 0, 1, (x, n) -> x.pieces(0, n));
        nobody("breaths NONE", NONE, false, (x, c) -> x.breaths(c, 1));
        nobody("breaths NONE ahead of BAD", NONE, false, (x, c) -> x.breaths(c, 100));
        outside("breaths BAD", BAD, 1, 99, (x, n) -> x.breaths(0, n));
        nobody("slack NONE", -10001, false, (x, c) -> x.slack(c));
    }

    private static void thinPlaces() {
        nobody("likely NO: child", NO, false, (x, c) -> x.likely(c, 0, 0));
        outside("likely NO: n", NO, 0, 999, (x, n) -> x.likely(0, n, 0));
        outside("likely NO: part", NO, 0, 1, (x, n) -> x.likely(0, 0, n));
        nobody("dare NONE", NONE, false, (x, c) -> x.dare(c));
        nobody("beats NO: one", NO, false, (x, c) -> x.beats(c, 0, 0));
        nobody("beats NO: other", NO, false, (x, c) -> x.beats(0, c, 1));
        nobody("beats NO: both", NO, false, (x, c) -> x.beats(c, c, 0));
        outside("beats NO: part", NO, 0, 1, (x, n) -> x.beats(0, 1, n));
        outside("beats NO: one is both", NO, 1, 3, (x, n) -> x.beats(n, n, 0));
        for (int c = 0; c < 5; c++) {
            int one = c;
            refused("beats NO: one is both", NO, x -> x.beats(one, one, 0));
            refused("beats NO: one is both", NO, x -> x.beats(one, one, 1));
        }
        outside("order NONE: k", NONE, -1, 4, (x, n) -> x.order(n));
        nobody("clean NONE", NONE, false, (x, c) -> x.clean(c, 1));
        nobody("clean NONE ahead of BAD", NONE, false, (x, c) -> x.clean(c, 0));
        outside("clean BAD", BAD, 1, 99, (x, n) -> x.clean(4, n));
    }

    private static void seenPlansAndBooks() {
        nobody("see NONE", NONE, true, (x, c) -> x.see(c, 0, 0));
        nobody("see NONE ahead of BAD", NONE, true, (x, c) -> x.see(c, 1000, 0));
        nobody("see NONE ahead of BAD", NONE, true, (x, c) -> x.see(c, 0, 21));
        outside("see BAD: holds", BAD, 0, 999, (x, n) -> x.see(0, n, 0));
        outside("see BAD: n", BAD, 0, 20, (x, n) -> x.see(0, 0, n));
        outside("who BAD: h", BAD, 0, 999, (x, n) -> x.who(n, 0));
        outside("who BAD: n", BAD, 0, 40, (x, n) -> x.who(0, n));
        nobody("firm NONE", NONE, false, (x, c) -> x.firm(c, 0));
        outside("firm NONE: what", NONE, 0, 1, (x, n) -> x.firm(0, n));
        nobody("had NONE", NONE, false, (x, c) -> x.had(c));
        outside("mean NO: n", NO, 0, 60, (x, n) -> x.mean(n, 0));
        outside("mean NO: part", NO, 0, 1, (x, n) -> x.mean(0, n));
        for (int what : new int[] {-2, 4, 99, MIN, MAX}) {
            refused("plan NONE: what " + what, NONE, x -> x.plan(what, 0));
            refused("plan NONE: what " + what, NONE, x -> x.plan(what, 9));
        }
        for (int what = 1; what <= 3; what++) {
            int row = what;
            nobody("plan NONE: child by " + what, NONE, false, (x, c) -> x.plan(row, c));
        }
        outside("done NONE", NONE, 0, 1, (x, n) -> x.done(n));
        nobody("book NONE", NONE, true, (x, c) -> x.book(c, 0));
        nobody("book NONE ahead of BAD", NONE, true, (x, c) -> x.book(c, 1000));
        outside("book BAD", BAD, 0, 999, (x, n) -> x.book(0, n));
    }

    private static void actsAndImages() {
        for (int i : new int[] {-1, 7, 8, 19, 20, 21, MIN, MAX}) refused("trace NONE: " + i, NONE, x -> x.trace(i));
        nobody("as NONE", NONE, false, (x, c) -> x.as(c, 0));
        outside("as NONE: k", NONE, 0, 6, (x, n) -> x.as(0, n));
        outside("count NONE", NONE, 0, 6, (x, n) -> x.count(n));
    }

    private static void inTheScene() {
        String due = told(scene());
        for (int i = 0; i < calls.size(); i++) {
            about(names.get(i));
            GumBubble x = scene();
            due(calls.get(i).on(x), dues.get(i));
            about(names.get(i) + " changes nothing");
            due(told(x).equals(due) ? 1 : 0, 1);
        }
        calls.clear();
        names.clear();
        dues.clear();
    }

    /** All is full: five AFTERNOONS, 100 signs, five of SEEN, eight rows each. */
    private static GumBubble fullOne() {
        GumBubble x = new GumBubble();
        for (int n = 1; n <= 5; n++) read(x, "wind " + n);
        for (int c = 0; c < 5; c++) x.child(6, c);
        for (int n = 1; n <= 5; n++) x.see(n - 1, 10 - n, 0);
        for (int n = 1; n <= 8; n++) x.plan(n % 4, n % 5);
        for (int n = 1; n <= 8; n++) x.book(n % 5, n);
        x.image();
        for (int n = 1; n <= 100; n++) x.feed('w');
        return x;
    }

    private static void full() {
        refused("feed FULL", FULL, x -> x.feed(0));
        refused("feed FULL", FULL, x -> x.feed(127));
        outside("feed BAD ahead of FULL", BAD, 0, 127, (x, n) -> x.feed(n));
        refused("afternoon FULL ahead of a FAULT", FULL, x -> x.afternoon());
        refused("child FULL", FULL, x -> x.child(6, 9));
        refused("child BAD ahead of FULL", BAD, x -> x.child(6, 10));
        refused("child NONE ahead of BAD and FULL", NONE, x -> x.child(7, 10));
        refused("child NONE ahead of FULL", NONE, x -> x.child(-1, 0));
        refused("see FULL", FULL, x -> x.see(0, 0, 0));
        refused("see FULL", FULL, x -> x.see(4, 999, 20));
        refused("see BAD ahead of FULL", BAD, x -> x.see(0, 1000, 0));
        refused("see BAD ahead of FULL", BAD, x -> x.see(0, 0, -1));
        refused("see NONE ahead of FULL", NONE, x -> x.see(5, 0, 0));
        refused("see NONE ahead of BAD and FULL", NONE, x -> x.see(5, -1, 0));
        refused("plan FULL", FULL, x -> x.plan(0, 99));
        for (int what = 0; what <= 3; what++) {
            int row = what;
            refused("plan FULL by " + what, FULL, x -> x.plan(row, 0));
            if (what > 0) refused("plan NONE ahead of FULL by " + what, NONE, x -> x.plan(row, 5));
        }
        refused("plan NONE ahead of FULL", NONE, x -> x.plan(4, 0));
        refused("plan NONE ahead of FULL", NONE, x -> x.plan(-2, 0));
        refused("book FULL", FULL, x -> x.book(0, 0));
        refused("book FULL", FULL, x -> x.book(4, 999));
        refused("book BAD ahead of FULL", BAD, x -> x.book(4, 1000));
        refused("book NONE ahead of FULL", NONE, x -> x.book(5, 0));
        refused("book NONE ahead of BAD and FULL", NONE, x -> x.book(5, -1));
    }

    private static void fullScene() {
        String due = told(fullOne());
        for (int i = 0; i < calls.size(); i++) {
            about(names.get(i));
            GumBubble x = fullOne();
            due(calls.get(i).on(x), dues.get(i));
            about(names.get(i) + " changes nothing");
            due(told(x).equals(due) ? 1 : 0, 1);
        }
        about("SEEN, PLAN, BOOK are none then, when they are full, too");
        GumBubble x = fullOne();
        due(x.see(-1, 1000, 21), 0);
        due(x.plan(-1, 9), 0);
        due(x.book(-1, 1000), 0);
        for (int what = 2; what <= 4; what++) due(x.count(what), 0);
        due(x.see(0, 0, 0), 1);
        due(x.plan(1, 0), 1);
        due(x.book(0, 0), 1);
    }

    /** NONE there is nobody such: of n CHILDREN, n and -1 are nobody, n - 1 is somebody. */
    private static void nobodyAmongFewer() {
        for (int many = 0; many <= 5; many++) {
            GumBubble x = new GumBubble();
            for (int c = 0; c < many; c++) x.child(6, 0);
            for (int c : new int[] {many, many + 1, MIN, MAX, -1, -2}) {
                about("nobody such: " + c + " of " + many);
                asked(x, c, NONE, NO);
                if (c != -1) {
                    due(x.see(c, 0, 0), NONE);
                    due(x.book(c, 0), NONE);
                }
                due(x.slack(c), -10001);
                due(x.act(c, 0, 7), 0);
                due(x.count(6), 0);
            }
            for (int c = 0; c < many; c++) {
                about("somebody: " + c + " of " + many);
                due(x.of(c, 0), 6);
                due(x.of(c, 1), 0);
                due(x.row(c, 3, 0), 0);
                due(x.set(c, 2, 0), 0);
                due(x.when(c, 1) >= 10 ? 1 : 0, 1);
                due(x.soon(c, 1), 0);
                due(x.breaths(c, 10), 1);
                due(x.slack(c), 10);
                due(x.likely(c, 0, 0), 1);
                due(x.dare(c), 5);
                due(x.clean(c, 1), 0);
                due(x.firm(c, 0), 10);
                due(x.had(c), 127);
                due(x.as(c, 3), 0);
                due(x.act(c, 0, 7), 7 + c);
            }
        }
    }

    private static void asked(GumBubble x, int c, long none, long no) {
        due(x.of(c, 0), none);
        due(x.row(c, 0, 0), none);
        due(x.set(c, 0, 0), none);
        due(x.blow(c, 1), none);
        due(x.when(c, 0), none);
        due(x.soon(c, 1), none);
        due(x.pieces(c, 0), none);
        due(x.breaths(c, 1), none);
        due(x.likely(c, 0, 0), no);
        due(x.dare(c), none);
        due(x.beats(c, 0, 0), no);
        due(x.beats(0, c, 0), no);
        due(x.clean(c, 1), none);
        due(x.firm(c, 0), none);
        due(x.had(c), none);
        for (int what = 1; what <= 3; what++) due(x.plan(what, c), none);
        due(x.as(c, 0), none);
    }

    /** The last numbers that are taken, each by a call that isn't refused. */
    private static void answersAreNotRefusals() {
        about("the last numbers that are taken");
        GumBubble x = scene();
        for (int n : new int[] {0, 127}) due(x.feed(n) > 0 ? 1 : 0, 1);
        due(x.of(4, 10) >= 0 ? 1 : 0, 1);
        due(x.row(0, 0, 0), 0);
        due(x.row(0, 3, 9), 0);
        due(x.row(0, 3, 0), 9);
        due(x.told(0), 9950);
        due(x.told(4), 1 << 2);
        due(x.pass(0), 9950);
        due(x.pass(49), 9999);
        due(x.told(4), 0);
        due(x.set(4, 0, 0), 1);
        due(x.set(4, 0, 6), 0);
        due(x.set(4, 1, 999), 0);
        due(x.set(4, 1, 0), 999);
        due(x.set(4, 2, 99), 99);
        due(x.set(4, 2, 0), 99);
        due(x.blow(4, 1), 1);
        due(x.blow(4, 99), 100);
        due(x.told(4), 16);
        due(x.on(0, 14), 180 - 2);
        due(x.on(60, 24), 0);
        due(x.when(4, 1), 178);
        due(x.soon(4, 178), 0);
        due(x.soon(4, 999), -5);
        due(x.pieces(4, 0), 6);
        due(x.breaths(4, 1), 78);
        due(x.breaths(4, 78), 1);
        due(x.breaths(4, 99), 0);
        due(x.likely(4, 0, 1), 1);
        due(x.likely(4, 999, 0), 0);
        due(x.beats(4, 1, 0), 1);
        due(x.order(-1) > 0 ? 1 : 0, 1);
        due(x.order(4) >= 0 ? 1 : 0, 1);
        due(x.clean(4, 1), 3);
        due(x.clean(4, 99), 1);
        due(x.who(178, 0), 16);
        due(x.who(999, 40), 0);
        due(x.mean(0, 1) > 0 ? 1 : 0, 1);
        due(x.mean(60, 1) > 0 ? 1 : 0, 1);
        due(x.done(1), 0);
        due(x.trace(0), 41);
        due(x.trace(6), 1);
        due(x.as(4, 0), 7);
        due(x.count(6), 7);
    }
}
