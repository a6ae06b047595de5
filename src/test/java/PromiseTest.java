/** Promise by promise: ordinary inputs, the edges that the document names, and each refusal in its order. */
public final class PromiseTest extends TestKit {
    public static void main(String[] args) {
        constantsAndNewObject();
        feed();
        afternoonWords();
        afternoonConditions();
        afternoonLimits();
        child();
        of();
        stretch();
        row();
        set();
        told();
        blow();
        pass();
        on();
        when();
        soon();
        pieces();
        breathsAndSlack();
        likely();
        dare();
        first();
        beats();
        swap();
        order();
        clean();
        seeAndWho();
        firmAndHad();
        mean();
        plan();
        done();
        book();
        act();
        as();
        imageAndUndo();
        count();
        askingChangesNothing();
        end("PromiseTest");
    }

    private static void constantsAndNewObject() {
        about("promise 1");
        due(GumBubble.NONE, -1);
        due(GumBubble.BAD, -2);
        due(GumBubble.STATE, -3);
        due(GumBubble.FULL, -4);
        due(GumBubble.NO, Long.MIN_VALUE);
        GumBubble x = new GumBubble();
        for (int what = 0; what <= 6; what++) due(x.count(what), 0);
        due(x.told(0), 0);
        due(x.told(1), 0);
        due(x.told(2), 20);
        due(x.told(3), 0);
        due(x.told(4), 0);
        due(x.of(0, 0), NONE);
        due(x.undo(), STATE);
        due(x.trace(0), NONE);
        due(x.looked(), -5);
        due(x.first(), -5);
        due(x.swap(), -5);
        due(x.order(-1), 0);
        due(x.order(0), -5);
        due(x.on(60, 0), 0);
        due(x.who(0, 0), 0);
        due(x.done(0), 0);
        due(x.done(1), 0);
    }

    private static void feed() {
        about("promise 2");
        GumBubble x = new GumBubble();
        due(x.feed(-1), BAD);
        due(x.feed(128), BAD);
        due(x.feed(Integer.MIN_VALUE), BAD);
        due(x.feed(0), 1);
        due(x.feed(127), 2);
        for (int i = 3; i <= 100; i++) due(x.feed('w'), i);
        due(x.feed('w'), FULL);
        due(x.feed(128), BAD);
        due(x.count(5), 100);
        due(x.afternoon(), -10);
        due(x.feed('w'), 1);
    }

    private static void afternoonWords() {
        about("promise 3");
        GumBubble x = new GumBubble();
        due(x.afternoon(), -10);
        due(read(x, "x"), -10);
        due(read(x, ";"), -10);
        due(read(x, "w"), -11);
        due(read(x, "wind"), -14);
        due(read(x, "wink 1"), -13);
        due(read(x, "windy"), -14);
        due(read(x, "wind "), -15);
        due(read(x, "wind  1"), -15);
        due(read(x, "wind x"), -15);
        due(read(x, "wind 05"), -16);
        due(read(x, "wind 123"), -17);
        due(read(x, "wind 1 "), -16);
        due(read(x, "wind 1;"), -17);
        due(read(x, "wind 1;;"), -17);
        due(read(x, " wind 1"), -10);
        due(read(x, "s"), -11);
        due(read(x, "sx"), -11);
        due(read(x, "swet 1"), -13);
        due(read(x, "st"), -12);
        due(read(x, "sta"), -12);
        due(read(x, "strech"), -14);
        due(read(x, "stif 1"), -14);
        due(read(x, "stretch 1"), -19);
        due(read(x, "stretch 1;"), -19);
        due(read(x, "stretch 1 "), -20);
        due(read(x, "Wind 1"), -10);
        due(x.count(1), 0);
        due(x.count(5), 0);
        due(read(x, "wind 9;sweet 5;wind 7;sweet 99"), 0);
        due(x.told(1), 7);
        due(x.told(2), 99);
        due(read(x, "wind 1;sweet x"), -23);
        due(x.told(1), 7);
        due(read(x, "sweet 0"), 1);
        due(x.told(1), 0);
        due(x.told(2), 0);
        due(read(x, "wind 0"), 2);
        due(x.told(2), 20);
        due(read(x, "wind 10"), 3);
        due(read(x, "wind 99"), 4);
        x.feed('z');
        due(x.afternoon(), FULL);
        due(x.count(5), 1);
        due(x.count(1), 5);
        due(x.told(1), 99);
    }

    private static void afternoonConditions() {
        GumBubble x = new GumBubble();
        String[] heads = {"stiff 1 "};
        for (String head : heads) {
            int at = -10 - head.length();
            due(read(x, head + "x"), at);
            due(read(x, head + "=1"), at);
            due(read(x, head + "!=1"), at - 1);
            due(read(x, head + "c"), at - 1);
            due(read(x, head + "c1"), at - 1);
            due(read(x, head + "c="), at - 2);
            due(read(x, head + "c=="), at - 2);
            due(read(x, head + "c=01"), at - 3);
            due(read(x, head + "c=100"), at - 4);
            due(read(x, head + "c=1&"), at - 4);
            due(read(x, head + "c=1|"), at - 4);
            due(read(x, head + "c=1|&"), at - 4);
            due(read(x, head + "c=1)"), at - 3);
            due(read(x, head + "c=1 "), at - 3);
            due(read(x, head + "c=1!"), at - 3);
            due(read(x, head + "(c=1"), at - 4);
            due(read(x, head + "()"), at - 1);
            due(read(x, head + "(c=1;"), at - 4);
            due(read(x, head + "c=1;c=1"), at - 4);
            due(read(x, head + "!!!!!!c=1"), at - 5);
            due(read(x, head + "((((((c=1"), at - 5);
            due(read(x, head + "!(!(!("), at - 5);
            due(read(x, head + "(!!!!c=1&!c=1&(((((c=1"), at - 18);
        }
        due(read(x, "stiff 1 !!!!!c=1&!!!!!k=0|!!!!!v=1"), 0);
        due(read(x, "stiff 1 (((((p=1)))))|((((!m=1))))&!s<99"), 1);
        due(read(x, "stretch 99 !(!(!c>99))"), 2);
        due(read(x, "stretch 0 c=0;stiff 0 c=0"), 3);
    }

    private static void afternoonLimits() {
        GumBubble x = new GumBubble();
        String ten = "wind 1;wind 2;wind 3;wind 4;wind 5;wind 6;wind 7;wind 8;wind 9;wind 10";
        due(read(x, ten + ";wind 11"), -10 - ten.length());
        due(read(x, ten), 0);
        due(x.told(1), 10);
        String nine = ten.substring(0, ten.length() - 1);
        due(read(x, nine + "0"), 1);
        String full = "stretch 9 " + "c=0|".repeat(22) + "c=0"; // 101 signs: the last does not come in
        due(full.length(), 101);
        due(read(x, full), -110);
        due(read(x, full.substring(0, 97)), 2);
    }

    private static void child() {
        about("promise 4");
        GumBubble x = new GumBubble();
        due(x.child(-1, 10), NONE);
        due(x.child(7, 0), NONE);
        due(x.child(0, -1), BAD);
        due(x.child(0, 10), BAD);
        due(x.child(0, 0), 0);
        due(x.child(6, 9), 1);
        due(x.child(1, 1), 2);
        due(x.child(2, 2), 3);
        due(x.child(3, 3), 4);
        due(x.child(4, 4), FULL);
        due(x.child(4, 10), BAD);
        due(x.child(7, 4), NONE);
        due(x.count(0), 5);
        due(x.of(1, 0), 6);
        due(x.of(1, 1), 9);
        due(x.of(1, 2), 1);
        due(x.of(1, 3), 20);
        for (int what = 4; what <= 6; what++) due(x.of(1, what), 0);
        GumBubble sweet = on("sweet 99");
        due(sweet.child(0, 0), 0);
        due(sweet.of(0, 3), 99);
        due(read(sweet, "sweet 1"), 1);
        due(sweet.of(0, 3), 99);
        due(sweet.child(0, 0), 1);
        due(sweet.of(1, 3), 1);
    }

    private static void of() {
        about("promise 5");
        GumBubble x = of(0, 5, 1, 5, 2, 5, 3, 5, 4, 5);
        GumBubble y = of(5, 5, 6, 5);
        for (int c = 0; c < 5; c++) put(x, c, 5, 30, 21);
        for (int c = 0; c < 2; c++) put(y, c, 5, 30, 21);
        y.row(1, 0, 7);
        int[] chews = {5, 10, 2, 3, 15, 3, 10};
        int[] tires = {5, 6, 5, 10, 6, 2, 10};
        for (int kind = 0; kind <= 6; kind++) {
            GumBubble z = kind < 5 ? x : y;
            int c = kind < 5 ? kind : kind - 5;
            due(z.of(c, 0), kind);
            due(z.of(c, 1), 5);
            due(z.of(c, 2), 5);
            due(z.of(c, 3), 30);
            due(z.of(c, 4), 21);
            due(z.of(c, 5), 0);
            due(z.of(c, 6), 0);
            due(z.of(c, 7), 30);
            due(z.of(c, 8), chews[kind]);
            due(z.of(c, 9), tires[kind]);
            due(z.of(c, 10), kind == 5 ? 100 : 110);
        }
        due(x.of(5, 0), NONE);
        due(x.of(-1, 0), NONE);
        due(x.of(0, -1), NONE);
        due(x.of(0, 11), NONE);
        put(y, 0, 1, 25, 1);
        due(y.of(0, 10), 0);
        put(y, 1, 1, 25, 1);
        due(y.of(1, 10), 5);
        y.set(0, 1, 999);
        y.set(1, 1, 999);
        due(y.of(0, 10), 0);
        due(y.of(1, 10), 0);
        due(of(3, 0).of(0, 8), 1);
        due(of(2, 9).of(0, 8), 3);
    }

    private static void stretch() {
        about("promise 5");
        String[] so = {"c=1", "k=3", "v=4", "p=1", "s=2", "m=0", "c<2", "c>0", "m<1", "!c=0", "!!c=1", "c=1|c=0&c=0",
            "c=0&c=0|c=1", "c=1&c=0|k=3", "!c=0&!c=2", "!(c=0&c=1)", "(c=0|c=1)&k>2", "!c=0|c=0", "s<3&s>1", "v>3",
            "(((((c=1)))))", "!!!!c=1&!!!!c=1", "c=0|c=0|c=1", "c=1|c=0|c=0", "c=1|c=1&c=0"};
        String[] not = {"c=0", "k=0", "v<4", "p>1", "s=20", "m>0", "!c=1", "c=0&c=1|c=0", "(c=1|c=1)&c=0", "c=1&c=0&c=1",
            "c=1&c=0|c=0", "!!!c=1", "!(c=1|c=0)", "c=10", "!c=1&c=1", "s=1", "!c=1|c=0"};
        for (int i = 0; i < so.length + not.length; i++) {
            boolean is = i < so.length;
            GumBubble x = on("stretch 7 " + (is ? so[i] : not[i - so.length]));
            x.child(0, 0);
            x.child(3, 4);
            due(x.of(1, 7), is ? 37 : 30);
        }
        GumBubble x = on("stretch 50 c=0;stiff 10 c<2;stretch 3 c=0;stiff 99 c=2;wind 50;stretch 9 m=3");
        for (int c = 0; c < 3; c++) x.child(0, 0);
        due(x.of(0, 7), 73);
        due(x.of(1, 7), 20);
        due(x.of(2, 7), 1);
        due(x.of(0, 10), 3);
        due(x.of(1, 10), 0);
        x.set(0, 0, 6);
        due(x.of(0, 10), 6 * 73 - 20 - 50);
        x.pass(13);
        due(x.of(0, 7), 82);
        due(read(x, "stretch 1 c=0"), 1);
        due(x.of(0, 7), 31);
        due(x.of(2, 7), 30);
        GumBubble s = on("stretch 1 s=10;stretch 2 s=99;stretch 4 p=6");
        s.child(0, 0);
        put(s, 0, 6, 109, 0);
        due(s.of(0, 7), 35);
        s.set(0, 1, 110);
        due(s.of(0, 7), 34);
        s.set(0, 1, 990);
        due(s.of(0, 7), 36);
    }

    private static void row() {
        about("promise 6");
        GumBubble x = of(6, 0, 3, 0);
        due(x.row(2, 0, 10), NONE);
        due(x.row(-1, 0, 0), NONE);
        due(x.row(0, -1, 0), NONE);
        due(x.row(0, 4, 10), NONE);
        due(x.row(1, 4, 0), NONE);
        due(x.row(0, 0, 10), BAD);
        due(x.row(1, 0, -1), BAD);
        due(x.row(1, 0, 0), STATE);
        due(x.row(0, 0, 9), 0);
        due(x.row(0, 0, 8), 9);
        due(x.row(0, 1, 2), 0);
        due(x.row(0, 3, 5), 0);
        int[] chews = {9, 3, 1, 6, 9, 3};
        for (int minute = 0; minute < 6; minute++) {
            due(x.of(0, 8), chews[minute]);
            x.pass(1);
        }
        due(x.row(0, 3, 0), 5);
    }

    private static void set() {
        about("promise 7");
        GumBubble x = of(0, 0, 0, 0);
        due(x.set(2, 0, 99), NONE);
        due(x.set(-1, 0, 0), NONE);
        due(x.set(0, 3, 0), NONE);
        due(x.set(0, -1, 1000), NONE);
        due(x.set(0, 0, 7), BAD);
        due(x.set(0, 0, -1), BAD);
        due(x.set(0, 1, 1000), BAD);
        due(x.set(0, 1, -1), BAD);
        due(x.set(0, 2, 100), BAD);
        due(x.set(0, 2, -1), BAD);
        due(x.set(0, 0, 6), 1);
        due(x.set(0, 0, 0), 6);
        due(x.set(0, 1, 999), 20);
        due(x.set(0, 1, 0), 999);
        due(x.set(0, 2, 99), 0);
        due(x.set(0, 2, 3), 99);
        due(x.of(0, 2), 0);
        due(x.of(0, 3), 0);
        due(x.of(0, 4), 3);
        due(x.of(1, 2), 1);
        due(x.of(1, 3), 20);
        due(x.of(1, 4), 0);
    }

    private static void told() {
        about("promise 8");
        GumBubble x = on("wind 3;sweet 4");
        for (int c = 0; c < 3; c++) x.child(c, 0);
        due(x.told(-1), NONE);
        due(x.told(5), NONE);
        due(x.told(3), 69);
        x.blow(0, 5);
        x.blow(2, 5);
        due(x.told(4), 5);
        x.pass(4);
        due(x.told(0), 4);
        due(x.told(4), 5);
        x.pass(1);
        due(x.told(4), 0);
        due(x.told(1), 3);
        due(x.told(2), 4);
    }

    private static void blow() {
        about("promise 9");
        GumBubble x = of(0, 0, 5, 0);
        due(x.blow(2, 0), NONE);
        due(x.blow(-1, 1), NONE);
        due(x.blow(0, 0), BAD);
        due(x.blow(0, 100), BAD);
        x.set(0, 0, 0);
        due(x.blow(0, 0), BAD);
        due(x.blow(0, 1), STATE);
        put(x, 0, 6, 0, 0);
        due(x.blow(0, 99), 99);
        due(x.blow(0, 81), 180);
        due(x.of(0, 5), 180);
        due(x.blow(0, 1), -6);
        due(x.of(0, 5), 0);
        due(x.of(0, 6), 18);
        due(x.blow(0, 9), 9);
        due(x.of(0, 6), 18);
        put(x, 1, 1, 11, 0);
        due(x.blow(1, 9), 9);
        due(x.blow(1, 1), -6);
        due(x.of(1, 6), 1);
        GumBubble y = on("stretch 99 p=6;stretch 99 p=6;stretch 99 p=6;stretch 99 p=6;stretch 99 p=6;stretch 99 p=6");
        y.child(0, 0);
        int hair = 0;
        for (int round = 0; round < 4; round++) {
            put(y, 0, 6, 0, 0);
            for (int i = 1; i <= 37; i++) due(y.blow(0, 99), 99 * i);
            due(y.blow(0, 81), 3744);
            due(y.blow(0, 1), -6);
            hair += 374;
            due(y.of(0, 6), hair);
        }
    }

    private static void pass() {
        about("promise 10");
        GumBubble x = of(0, 2, 1, 2, 3, 2, 0, 2);
        put(x, 0, 3, 50, 97);
        put(x, 1, 2, 5, 0);
        put(x, 2, 2, 50, 0);
        put(x, 3, 0, 50, 7);
        x.set(2, 1, 0);
        due(x.blow(2, 5), 5);
        x.set(2, 1, 40);
        due(x.pass(-1), BAD);
        due(x.pass(61), BAD);
        due(x.pass(0), 0);
        due(x.pass(1), 1);
        due(x.of(0, 3), 46);
        due(x.of(0, 4), 99);
        due(x.of(1, 3), 0);
        due(x.of(1, 4), 3);
        due(x.of(2, 5), 2);
        due(x.of(2, 3), 40);
        due(x.of(2, 4), 0);
        due(x.of(3, 4), 2);
        due(x.of(3, 3), 50);
        due(x.pass(1), 2);
        due(x.of(2, 5), 0);
        due(x.of(2, 3), 40);
        due(x.of(3, 4), 0);
        due(x.pass(1), 3);
        due(x.of(2, 3), 38);
        due(x.of(2, 4), 4);
        due(x.of(3, 4), 0);
        GumBubble y = of(6, 0);
        for (int i = 1; i <= 166; i++) due(y.pass(60), 60 * i);
        due(y.pass(40), STATE);
        due(y.pass(61), BAD);
        due(y.told(0), 9960);
        due(y.pass(39), 9999);
        due(y.pass(1), STATE);
        due(y.pass(0), 9999);
        y.row(0, 0, 7);
        y.set(0, 1, 100);
        due(y.on(1, 20), 99);
        due(y.on(2, 20), 91);
        due(y.when(0, 0) >= 0 ? 1 : 0, 1);
    }

    private static void on() {
        about("promise 11");
        GumBubble x = of(0, 0, 0, 4);
        due(x.on(61, 12), NONE);
        due(x.on(0, 1), NONE);
        due(x.on(0, 9), NONE);
        due(x.on(0, 12), NONE);
        due(x.on(0, 15), NONE);
        due(x.on(0, 19), NONE);
        due(x.on(0, 22), NONE);
        due(x.on(0, -1), NONE);
        due(x.on(0, -10), NONE);
        due(x.on(-1, 0), BAD);
        due(x.on(61, 20), BAD);
        due(x.on(0, 0), 20);
        due(x.on(2, 20), 14);
        due(x.on(2, 21), 10);
        due(x.on(2, 10), 15);
        due(x.on(2, 11), 19);
        due(x.on(2, 0), 34);
        due(x.on(60, 20), 0);
        due(x.on(60, 10), 0);
        due(x.on(59, 10), 1);
        due(x.told(0), 0);
    }

    private static void when() {
        about("promise 12");
        GumBubble x = of(0, 0);
        due(x.when(1, 0), NONE);
        due(x.when(-1, 0), NONE);
        due(x.when(0, 2), NONE);
        due(x.when(0, -1), NONE);
        due(x.when(0, 0), 7);
        due(x.when(0, 1), 27);
        x.set(0, 0, 0);
        due(x.when(0, 0), 0);
        due(x.when(0, 1), 0);
        GumBubble late = of(0, 0);
        put(late, 0, 1, 180, 0);
        late.set(0, 0, 6);
        due(late.when(0, 1), 180 - 49);
        due(late.when(0, 0), 60);
        GumBubble y = on("stretch 5 m=3|m=6");
        y.child(0, 0);
        put(y, 0, 1, 0, 0);
        due(y.when(0, 1), 34);
        due(y.when(0, 0), 3);
        y.pass(4);
        due(y.when(0, 0), 2);
        GumBubble rows = of(6, 0);
        rows.row(0, 1, 9);
        rows.set(0, 2, 20);
        due(rows.on(2, 20), 9);
        // SUGAR 20, 19, 9, 8, 7, 6, 0 and the half of JAW 10, 11, 12, 13, 14, 15, 16
        due(rows.when(0, 0), 6);
        due(rows.when(0, 1), 14);
        due(rows.soon(0, 10), 6);
    }

    private static void soon() {
        about("promise 13");
        GumBubble x = of(0, 0);
        due(x.soon(1, 0), NONE);
        due(x.soon(-1, 1), NONE);
        due(x.soon(0, 0), BAD);
        due(x.soon(0, 1000), BAD);
        due(x.soon(0, 1), 0);
        due(x.soon(0, 10), 0);
        due(x.soon(0, 11), 1);
        due(x.soon(0, 27), 7);
        due(x.soon(0, 28), -5);
        due(x.soon(0, 999), -5);
        put(x, 0, 6, 180, 0);
        due(x.soon(0, 131), 60);
        due(x.soon(0, 132), -5);
    }

    private static void pieces() {
        about("promise 14");
        GumBubble x = of(0, 0);
        due(x.pieces(1, 0), NONE);
        due(x.pieces(-1, 1), NONE);
        due(x.pieces(0, 2), NONE);
        due(x.pieces(0, -1), NONE);
        due(x.pieces(0, 0), 6);
        due(x.pieces(0, 1), 180 - 49);
        x.set(0, 1, 0);
        due(x.blow(0, 30), 30);
        due(x.pieces(0, 1), 131);
        GumBubble y = on("stiff 29 p>2;sweet 0");
        y.child(5, 0);
        y.set(0, 2, 50);
        due(y.pieces(0, 0), 2);
        due(y.pieces(0, 1), 60 - 25 - 10);
        GumBubble z = on("wind 99;stiff 29 c=0");
        z.child(0, 0);
        z.set(0, 0, 6);
        due(z.pieces(0, 0), 0);
        due(z.pieces(0, 1), 0);
    }

    private static void breathsAndSlack() {
        about("promise 15");
        GumBubble x = of(0, 0);
        put(x, 0, 1, 0, 0);
        due(x.breaths(1, 0), NONE);
        due(x.breaths(-1, 1), NONE);
        due(x.breaths(0, 0), BAD);
        due(x.breaths(0, 100), BAD);
        due(x.breaths(0, 1), 30);
        due(x.breaths(0, 7), 4);
        due(x.breaths(0, 30), 1);
        due(x.breaths(0, 31), 0);
        due(x.slack(0), 30);
        x.blow(0, 20);
        due(x.breaths(0, 5), 2);
        due(x.slack(0), 10);
        x.set(0, 1, 15);
        due(x.breaths(0, 1), 0);
        about("promise 16");
        due(x.slack(0), -5);
        x.set(0, 0, 0);
        due(x.slack(0), -20);
        due(x.slack(1), -10001);
        due(x.slack(-1), -10001);
    }

    private static void likely() {
        about("promise 17");
        GumBubble x = of(0, 0);
        put(x, 0, 1, 0, 0);
        due(x.likely(1, 0, 0), NO);
        due(x.likely(-1, 0, 0), NO);
        due(x.likely(0, -1, 0), NO);
        due(x.likely(0, 1000, 0), NO);
        due(x.likely(0, 0, 2), NO);
        due(x.likely(0, 0, -1), NO);
        long[][] due = {{0, 1, 1}, {1, 3, 5}, {5, 3, 5}, {6, 1, 2}, {10, 1, 2}, {11, 2, 5}, {25, 1, 5}, {26, 1, 10}, {30, 1, 10},
            {31, 0, 1}, {999, 0, 1}};
        for (long[] d : due) {
            due(x.likely(0, (int) d[0], 0), d[1]);
            due(x.likely(0, (int) d[0], 1), d[2]);
        }
    }

    private static void dare() {
        about("promise 18");
        GumBubble x = of(0, 0, 5, 0);
        due(x.dare(2), NONE);
        due(x.dare(-1), NONE);
        due(x.dare(0), 5);
        put(x, 0, 1, 0, 0);
        due(x.dare(0), 15);
        put(x, 0, 6, 0, 0);
        due(x.dare(0), 135);
        x.set(0, 0, 0);
        due(x.dare(0), 0);
        put(x, 1, 1, 0, 0);
        due(x.dare(1), 10);
        GumBubble y = on("stretch 99 c=0;stretch 99 c=0;stretch 13 c=0");
        y.child(0, 0);
        put(y, 0, 5, 206, 0);
        due(y.of(0, 10), 999);
        due(y.dare(0), 954);
        y.set(0, 0, 6);
        due(y.dare(0), 999);
    }

    private static void first() {
        about("promise 19");
        GumBubble x = of(0, 0, 1, 0, 5, 0);
        due(x.first(), 0);
        x.set(1, 1, 19);
        due(x.first(), 1);
        x.set(2, 1, 0);
        due(x.first(), 2);
        x.set(1, 1, 10);
        due(x.first(), 1);
        for (int c = 0; c < 3; c++) x.set(c, 0, 0);
        due(x.first(), 0);
    }

    private static void beats() {
        about("promise 20");
        GumBubble x = of(0, 0, 0, 0);
        due(x.beats(0, 2, 0), NO);
        due(x.beats(2, 0, 0), NO);
        due(x.beats(-1, 0, 0), NO);
        due(x.beats(0, 1, 2), NO);
        due(x.beats(0, 1, -1), NO);
        due(x.beats(1, 1, 0), NO);
        due(x.beats(0, 1, 0), 17);
        due(x.beats(0, 1, 1), 100);
        put(x, 0, 6, 0, 0);
        due(x.beats(0, 1, 0), 1);
        due(x.beats(0, 1, 1), 1);
        due(x.beats(1, 0, 0), 0);
        due(x.beats(1, 0, 1), 1);
        put(x, 1, 6, 5, 0);
        due(x.beats(0, 1, 0), 11);
        due(x.beats(0, 1, 1), 20);
        put(x, 1, 6, 0, 0);
        due(x.beats(0, 1, 0), 9);
        due(x.beats(0, 1, 1), 20);
    }

    private static void swap() {
        about("promise 21");
        GumBubble x = of(0, 0, 0, 0);
        put(x, 0, 5, 20, 0);
        due(x.swap(), -5);
        x.set(0, 2, 10);
        due(x.swap(), -5);
        x.set(0, 2, 90); // 85 and 10, or, as no HOLDS is below 0, 0 and 130
        due(x.swap(), 1);
        GumBubble y = on("stretch 30 c=1;stretch 50 c=2;stretch 50 c=3");
        for (int c = 0; c < 4; c++) y.child(0, 0);
        put(y, 0, 6, 20, 0);
        due(y.swap(), 2);
        put(y, 0, 1, 20, 0);
        put(y, 1, 3, 20, 0);
        due(y.swap(), 12);
        put(y, 3, 6, 20, 0);
        due(y.swap(), 12);
        due(y.swap(), 12);
        GumBubble z = of(5, 0, 0, 0);
        put(z, 0, 1, 0, 50);
        put(z, 1, 0, 0, 0);
        due(z.swap(), 1);
        put(z, 0, 1, 40, 0);
        put(z, 1, 2, 0, 99);
        due(z.of(0, 10) + z.of(1, 10), 11);
        due(z.swap(), 1);
        due(z.of(0, 2), 1);
        due(z.of(0, 3), 40);
    }

    private static void order() {
        about("promise 22");
        GumBubble x = of(0, 0, 1, 0);
        due(x.order(-2), NONE);
        due(x.order(5), NONE);
        due(x.order(2), -5);
        due(x.order(4), -5);
        due(x.order(-1), 10 + 15);
        due(x.order(0), 0);
        due(x.order(1), 1);
        GumBubble same = of(2, 0, 2, 0, 2, 0, 2, 0, 2, 0);
        for (int k = 0; k < 5; k++) due(same.order(k), k);
        due(same.order(-1), 10 + 11 + 11 + 12 + 12);
        GumBubble y = on("stretch 9 c=0&m=2|c=1&m=0|c=2&m=1");
        for (int c = 0; c < 3; c++) y.child(0, 0);
        for (int c = 0; c < 3; c++) put(y, c, 1, 0, 0);
        due(y.order(-1), 39 + 39 + 38);
        due(y.order(0), 1);
        due(y.order(1), 2);
        due(y.order(2), 0);
        due(y.order(3), -5);
        GumBubble rows = of(0, 0, 6, 0, 6, 0);
        rows.row(1, 1, 9);
        rows.row(2, 0, 3);
        put(rows, 0, 0, 0, 0);
        due(rows.on(1, 11), 10);
        due(rows.on(2, 11), 19);
        due(rows.on(1, 12), 13);
        due(rows.on(2, 12), 13);
        due(rows.order(-1), 13 + 19);
        due(rows.order(0), 0);
        due(rows.order(1), 2);
        due(rows.order(2), 1);
    }

    private static void clean() {
        about("promise 23");
        GumBubble x = of(0, 0);
        due(x.clean(1, 0), NONE);
        due(x.clean(-1, 1), NONE);
        due(x.clean(0, 0), BAD);
        due(x.clean(0, 100), BAD);
        due(x.clean(0, 1), 0);
        due(x.blow(0, 70), -6);
        due(x.clean(0, 1), 7);
        due(x.clean(0, 7), 1);
        due(x.clean(0, 6), 2);
        due(x.clean(0, 99), 1);
        due(x.clean(0, 3), 3);
    }

    private static void seeAndWho() {
        about("promise 24");
        GumBubble x = of(0, 0, 0, 0);
        due(x.see(2, 1000, 0), NONE);
        due(x.see(-2, 0, 0), NONE);
        due(x.see(0, -1, 0), BAD);
        due(x.see(0, 1000, 0), BAD);
        due(x.see(0, 0, -1), BAD);
        due(x.see(0, 0, 21), BAD);
        due(x.see(0, 999, 20), 1);
        for (int i = 2; i <= 5; i++) due(x.see(1, 0, 0), i);
        due(x.see(1, 0, 0), FULL);
        due(x.see(1, 0, 21), BAD);
        due(x.see(2, 0, 0), NONE);
        due(x.count(2), 5);
        due(x.see(-1, -7, 99), 0);
        due(x.count(2), 0);
        due(x.see(-1, 0, 0), 0);
        due(x.see(0, 0, 0), 1);
        about("promise 25");
        due(x.who(-1, 0), BAD);
        due(x.who(1000, 0), BAD);
        due(x.who(0, -1), BAD);
        due(x.who(0, 41), BAD);
        due(x.who(10, 0), 3);
        due(x.who(999, 40), 0);
        x.set(1, 1, 19);
        due(x.who(10, 0), 1);
        due(x.who(11, 0), 2);
        due(x.who(13, 1), 1);
        due(x.who(14, 1), 2);
        due(x.who(10, 40), 3);
    }

    private static void firmAndHad() {
        about("promise 26");
        GumBubble x = of(0, 0, 0, 0);
        due(x.firm(2, 0), NONE);
        due(x.firm(-1, 0), NONE);
        due(x.firm(0, 2), NONE);
        due(x.firm(0, -1), NONE);
        due(x.firm(0, 0), 10);
        due(x.firm(0, 1), 0);
        due(x.see(0, 19, 2), 1);
        due(x.firm(0, 0), 2);
        due(x.firm(0, 1), 4);
        due(x.firm(1, 0), 0);
        due(x.firm(1, 1), -5);
        due(x.had(0), 0);
        due(x.see(0, 10, 0), 2);
        due(x.firm(0, 0), 2);
        due(x.see(1, 10, 0), 3);
        due(x.firm(0, 0), 2);
        due(x.see(1, 11, 0), 4);
        due(x.firm(0, 0), 0);
        due(x.firm(0, 1), -5);
        about("promise 27");
        due(x.see(-1, 0, 0), 0);
        due(x.had(2), NONE);
        due(x.had(-1), NONE);
        due(x.had(0), 127);
        due(x.see(0, 70, 0), 1);
        due(x.had(0), 8);
        due(x.see(0, 75, 2), 2);
        due(x.had(0), 0);
        due(x.see(-1, 0, 0), 0);
        x.set(0, 1, 70);
        due(x.see(0, 0, 0), 1);
        due(x.had(0), 7);
        due(x.had(1), 127);
        due(x.see(1, 10, 0), 2);
        due(x.had(0), 7);
        due(x.had(1), 2);
        due(x.of(0, 2), 1);
        GumBubble y = on("stretch 3 v=2|v=5");
        y.child(0, 0);
        due(y.see(0, 13, 0), 1);
        due(y.firm(0, 0), 2);
        due(y.firm(0, 1), 2);
        due(y.see(0, 10, 0), 2);
        due(y.firm(0, 1), -5);
    }

    private static void mean() {
        about("promise 28");
        GumBubble x = new GumBubble();
        due(x.mean(0, 0), NO);
        x.child(0, 0);
        due(x.mean(-1, 0), NO);
        due(x.mean(61, 0), NO);
        due(x.mean(0, 2), NO);
        due(x.mean(0, -1), NO);
        due(x.mean(0, 0), 10);
        due(x.mean(0, 1), 1);
        x.child(0, 4);
        due(x.mean(1, 0), 14);
        due(x.mean(1, 1), 1);
        x.child(0, 4);
        x.child(0, 0);
        x.set(3, 1, 25);
        due(x.mean(0, 0), 35);
        due(x.mean(0, 1), 4);
        x.set(3, 1, 20);
        x.set(2, 1, 18);
        due(x.mean(0, 0), 21);
        due(x.mean(0, 1), 2);
        for (int c = 0; c < 4; c++) x.set(c, 0, 0);
        due(x.mean(60, 0), 0);
        due(x.mean(60, 1), 1);
    }

    private static void plan() {
        about("promise 29");
        GumBubble x = of(0, 0);
        due(x.plan(-2, 0), NONE);
        due(x.plan(4, 0), NONE);
        for (int what = 1; what <= 3; what++) {
            due(x.plan(what, 1), NONE);
            due(x.plan(what, -1), NONE);
        }
        due(x.plan(0, -99), 1);
        due(x.plan(1, 0), 2);
        due(x.plan(2, 0), 3);
        due(x.plan(3, 0), 4);
        for (int i = 5; i <= 8; i++) due(x.plan(0, 0), i);
        due(x.plan(0, 0), FULL);
        due(x.plan(1, 1), NONE);
        due(x.plan(4, 0), NONE);
        due(x.count(3), 8);
        due(x.plan(-1, -99), 0);
        due(x.count(3), 0);
        due(x.plan(3, 0), 1);
        due(new GumBubble().plan(0, 0), 1);
    }

    private static void done() {
        about("promise 30");
        GumBubble x = of(0, 0, 0, 0);
        due(x.done(2), NONE);
        due(x.done(-1), NONE);
        due(x.blow(0, 4), 4);
        due(x.done(0), 4);
        due(x.plan(3, 0), 1);
        due(x.done(0), 0);
        due(x.done(1), 1);
        due(x.plan(1, 1), 2);
        due(x.plan(3, 1), 3);
        due(x.plan(3, 1), 4);
        due(x.done(0), 20);
        due(x.plan(3, 1), 5);
        due(x.done(0), 0);
        due(x.done(1), 4);
        x.plan(-1, 0);
        x.plan(3, 1);
        x.plan(0, 0);
        due(x.done(0), 3 + 9);
        x.plan(2, 1);
        due(x.done(0), 3);
        x.plan(3, 1);
        due(x.done(0), 3);
        due(x.done(1), 1);
        due(x.of(1, 2), 1);
        due(x.of(1, 6), 0);
        GumBubble y = of(0, 0);
        put(y, 0, 6, 165, 0);
        y.plan(3, 0);
        due(y.done(0), 10);
        y.plan(1, 0);
        y.plan(3, 0);
        due(y.done(1), 2);
        due(y.done(0), 0);
        y.plan(-1, 0);
        y.plan(2, 0);
        y.plan(1, 0);
        y.plan(3, 0);
        due(y.done(0), 10);
        y.plan(3, 0);
        due(y.done(1), 2);
        GumBubble z = on("sweet 99;stretch 99 p=6;stretch 99 p=6");
        z.child(0, 0);
        put(z, 0, 6, 950, 0);
        z.plan(1, 0);
        z.plan(3, 0);
        due(z.done(0), 10);
        GumBubble m = on("stiff 29 m=2");
        m.child(0, 0);
        put(m, 0, 1, 0, 0);
        m.plan(0, 0);
        m.plan(3, 0);
        due(m.done(0), 10);
        m.plan(-1, 0);
        m.plan(0, 0);
        m.plan(0, 0);
        m.plan(3, 0);
        due(m.done(0), 0);
        due(m.done(1), 1);
        due(m.told(0), 0);
    }

    private static void book() {
        about("promise 31");
        GumBubble x = of(0, 0, 0, 0);
        due(x.book(2, 1000), NONE);
        due(x.book(-2, 0), NONE);
        due(x.book(0, -1), BAD);
        due(x.book(0, 1000), BAD);
        about("promise 32");
        due(x.looked(), -5);
        due(x.book(1, 0), 1);
        due(x.looked(), -5);
        due(x.book(0, 0), 2);
        due(x.looked(), -5);
        due(x.book(1, 7), 3);
        due(x.looked(), 2);
        x.blow(0, 3);
        due(x.looked(), 1);
        x.blow(1, 7);
        due(x.looked(), 0);
        x.pass(7);
        due(x.looked(), 2);
        about("promise 31");
        for (int i = 4; i <= 8; i++) due(x.book(0, 999), i);
        due(x.book(0, 999), FULL);
        due(x.book(0, 1000), BAD);
        due(x.book(2, 0), NONE);
        due(x.count(4), 8);
        due(x.book(-1, 5000), 0);
        due(x.count(4), 0);
        due(x.looked(), -5);
    }

    private static void act() {
        about("promise 33");
        GumBubble x = of(0, 2, 1, 2, 2, 2, 3, 2, 4, 2);
        GumBubble y = of(0, 0, 5, 2, 6, 2);
        acted(x, 0, 0, 10, 10, 1);
        acted(x, 0, 1, 10, 8, 2, 1);
        acted(x, 0, 2, 10, 16, 3, 2, 1);
        acted(x, 1, 0, 10, 31, 11, 1);
        acted(x, 1, 1, 10, 29, 2, 11, 1);
        acted(x, 1, 2, 10, 58, 3, 2, 11, 1);
        acted(x, 2, 0, 10, 12, 1);
        acted(x, 2, 1, 10, -10, 21, 2, 1);
        acted(x, 2, 2, 10, -20, 3, 21, 2, 1);
        acted(x, 3, 0, 10, 13, 1);
        acted(x, 3, 1, 10, 11, 2, 1);
        acted(x, 3, 2, 10, 22 ^ 7, 31, 3, 2, 1);
        acted(x, 4, 0, 10, 34, 11, 1);
        acted(x, 4, 1, 10, 32, 2, 11, 1);
        acted(x, 4, 2, 10, 2 * (27 + 4 - 2) + 10, 41, 3, 2, 11, 1, 11, 1);
        acted(y, 1, 0, 10, 11 ^ 1, 51, 1);
        acted(y, 1, 1, 10, -((11 ^ 1) - 2), 21, 2, 51, 1);
        acted(y, 1, 2, 10, -2 * ((11 ^ 1) - 2), 3, 21, 2, 51, 1);
        acted(y, 2, 0, 10, 12, 1);
        acted(y, 2, 1, 10, 12, 61, 2, 1);
        acted(y, 2, 2, 10, 24 ^ 7, 31, 3, 61, 2, 1);
        acted(x, 1, 0, Integer.MAX_VALUE, Integer.MAX_VALUE * 3 + 1, 11, 1);
        acted(x, 3, 0, Integer.MAX_VALUE, Integer.MIN_VALUE + 2, 1);
        acted(x, 4, 2, Integer.MIN_VALUE, 2 * ((Integer.MIN_VALUE - 1) * 3 + 4 - 2) + 10, 41, 3, 2, 11, 1, 11, 1);
        acted(x, 5, 0, 1, 0);
        acted(x, 0, 0, 10, 10, 1);
        acted(x, -1, 0, 1, 0);
        acted(x, 0, 0, 10, 10, 1);
        acted(x, 0, 3, 1, 0);
        acted(x, 0, 0, 10, 10, 1);
        acted(x, 0, -1, 1, 0);
    }

    private static void acted(GumBubble x, int child, int act, int with, int answer, int... bodies) {
        due(x.act(child, act, with), answer);
        due(x.count(6), bodies.length);
        for (int i = 0; i < bodies.length; i++) due(x.trace(i), bodies[i]);
        about("promise 34");
        due(x.trace(bodies.length), NONE);
        due(x.trace(-1), NONE);
        due(x.trace(20), NONE);
        about("promise 33");
    }

    private static void as() {
        about("promise 35");
        String[] under = {"0", "01", "02", "03", "014", "025", "036"};
        for (int kind = 0; kind <= 6; kind++) {
            GumBubble x = of(kind, 9 - kind);
            for (int k = 0; k <= 6; k++) due(x.as(0, k), under[kind].indexOf('0' + k) >= 0 ? 9 - kind : -6);
            due(x.as(0, 7), NONE);
            due(x.as(0, -1), NONE);
            due(x.as(1, 0), NONE);
            due(x.as(-1, 0), NONE);
        }
    }

    private static void imageAndUndo() {
        about("promise 36");
        GumBubble x = new GumBubble();
        due(x.image(), 0);
        due(read(x, "wind 2;sweet 7"), 0);
        due(x.child(6, 1), 0);
        due(x.child(0, 2), 1);
        x.row(0, 1, 4);
        x.set(0, 0, 2);
        x.set(0, 2, 5);
        due(x.blow(1, 40), -6);
        due(x.blow(1, 6), 6);
        x.pass(2);
        x.see(0, 1, 2);
        x.plan(3, 0);
        x.plan(0, 0);
        x.book(1, 0);
        x.book(1, 3);
        x.book(1, 4);
        x.feed('w');
        x.act(0, 0, 3);
        due(x.image(), 2);
        int[] was = new int[30];
        look(x, was);
        about("promise 37");
        for (int round = 0; round < 2; round++) {
            due(x.child(4, 9), 2);
            x.row(0, 1, 0);
            x.row(0, 2, 9);
            for (int what = 0; what < 3; what++) x.set(0, what, 1);
            x.blow(1, 99);
            x.pass(9);
            x.see(-1, 0, 0);
            x.see(2, 9, 9);
            x.see(2, 9, 9);
            x.plan(2, 1);
            x.plan(-1, 0);
            x.book(-1, 0);
            x.book(2, 9);
            x.feed('i');
            x.afternoon();
            due(read(x, "wind 50;stretch 9 c=0"), 1);
            due(x.act(2, 2, 1) == 0 ? 1 : 0, 0);
            due(x.undo(), 2);
            due(x.count(6), 7);
            due(x.trace(0), 41);
            look(x, null);
            int[] is = new int[30];
            look(x, is);
            for (int i = 0; i < is.length; i++) due(is[i], was[i]);
            due(x.of(2, 0), NONE);
            due(x.feed('i'), 2);
        }
        due(x.undo(), 2);
        due(x.feed('i'), 2);
        due(x.child(3, 3), 2);
        due(x.image(), 3);
        due(x.pass(5), 7);
        due(x.undo(), 3);
        due(x.told(0), 2);
        due(x.count(5), 2);
        GumBubble y = new GumBubble();
        for (char c : "win".toCharArray()) y.feed(c);
        due(y.image(), 0);
        due(y.afternoon(), -13);
        for (char c : "stiff 99 ".toCharArray()) y.feed(c);
        due(y.undo(), 0);
        for (char c : "d 7".toCharArray()) y.feed(c);
        due(y.afternoon(), 0);
        due(y.told(1), 7);
    }

    private static void look(GumBubble x, int[] into) {
        if (into == null) return;
        int n = 0;
        for (int c = 0; c < 2; c++) for (int what = 1; what <= 10; what++) into[n++] = x.of(c, what);
        for (int what = 0; what <= 2; what++) into[n++] = x.told(what);
        for (int what = 0; what <= 5; what++) into[n++] = x.count(what);
        into[n++] = x.looked();
    }

    private static void count() {
        about("promise 38");
        GumBubble x = of(0, 0);
        due(x.count(-1), NONE);
        due(x.count(7), NONE);
        read(x, "wind 1");
        read(x, "wind 2");
        for (int i = 0; i < 3; i++) x.see(0, 0, 0);
        for (int i = 0; i < 4; i++) x.plan(0, 0);
        for (int i = 0; i < 5; i++) x.book(0, 0);
        for (int i = 0; i < 6; i++) x.feed(';');
        x.act(0, 2, 0);
        int[] due = {1, 2, 3, 4, 5, 6, 3};
        for (int what = 0; what <= 6; what++) due(x.count(what), due[what]);
    }

    /** Terms 2: what is asked changes nothing. */
    private static void askingChangesNothing() {
        about("promise 11");
        GumBubble x = on("stretch 5 m=2;wind 1");
        x.child(6, 3);
        x.child(4, 2);
        x.row(0, 2, 5);
        x.set(1, 0, 3);
        x.blow(1, 20);
        x.plan(1, 0);
        x.plan(0, 0);
        x.plan(3, 1);
        x.plan(2, 0);
        x.see(0, 9, 3);
        x.book(1, 20);
        int[] was = new int[30];
        look(x, was);
        x.on(60, 0);
        x.on(60, 21);
        x.when(1, 0);
        x.soon(0, 99);
        x.pieces(1, 0);
        x.breaths(1, 9);
        x.slack(0);
        x.likely(0, 5, 0);
        x.dare(1);
        x.first();
        x.beats(0, 1, 0);
        x.swap();
        x.order(-1);
        x.clean(0, 1);
        x.who(3, 40);
        x.firm(0, 0);
        x.had(1);
        x.mean(60, 0);
        x.done(0);
        x.looked();
        x.act(1, 2, 3);
        x.as(0, 3);
        int[] is = new int[30];
        look(x, is);
        for (int i = 0; i < is.length; i++) due(is[i], was[i]);
    }
}
