/** Paragraph 2 of the Terms: each sentence that names a bound, at the last that is taken and the first that is not. */
public final class AskedEdgeTest extends TestKit {
    /** STRETCH 228, so HOLDS up to 1368. */
    private static final String WIDE = "stretch 99 p=6;stretch 99 p=6";

    public static void main(String[] args) {
        onUpToSixtyMinutes();
        whenUpToSixtyMinutes();
        whenTheFirst();
        soonUpToSixtyMinutes();
        soonOfNumbers();
        piecesTheFewest();
        breathsBorne();
        slackBelowNought();
        likelyOfThinPlaces();
        dareTheLeast();
        firstOfSeveral();
        beatsOfTwo();
        swapIfMore();
        swapTheFirst();
        orderOfFewAndFive();
        orderTheFirst();
        cleanRoundedUp();
        seenAreFive();
        whoIsIt();
        firmOfNumbers();
        hadPieces();
        meanOfAll();
        planHasEightRows();
        planPieces();
        planSpitsAndBlows();
        planBeyondTheLastMinute();
        bookHasEightRows();
        lookedAtTheFirst();
        actsWrap();
        tracesOfTheLatest();
        asKinds();
        imageAndUndo();
        minutesUpToTheLast();
        end("AskedEdgeTest");
    }

    private static GumBubble one(int pieces, int sugar, int jaw) {
        GumBubble x = of(0, 0);
        put(x, 0, pieces, sugar, jaw);
        return x;
    }

    private static GumBubble wide(int sugar, int jaw) {
        GumBubble x = with(WIDE, 0, 0);
        put(x, 0, 6, sugar, jaw);
        return x;
    }

    private static void onUpToSixtyMinutes() {
        about("ON n MINUTES (0 .. 60)");
        GumBubble x = one(6, 200, 99);
        for (int n = 0; n <= 60; n++) {
            due(x.on(n, 20), 200 - 3 * n);
            due(x.on(n, 10), Math.max(0, 131 - 200 + 3 * n));
            due(x.on(n, 0), Math.max(0, 131 - 200 + 3 * n));
        }
        due(x.on(-1, 0), BAD);
        due(x.on(61, 0), BAD);
        due(x.on(-1, 10), BAD);
        due(x.on(61, 10), BAD);
        due(x.on(-1, 20), BAD);
        due(x.on(61, 20), BAD);
        about("10 and c HOLDS, 20 and c SUGAR of child c");
        for (int many = 0; many <= 5; many++) {
            GumBubble y = new GumBubble();
            for (int c = 0; c < many; c++) {
                y.child(0, 0);
                y.set(c, 1, c);
            }
            for (int c = -3; c <= 9; c++) {
                boolean is = c >= 0 && c < many;
                due(y.on(0, 10 + c), is ? 30 - c : NONE);
                if (c >= 0) due(y.on(0, 20 + c), is ? c : NONE);
            }
            due(y.on(0, 0), 30 * many - many * (many - 1) / 2);
        }
    }

    private static void whenUpToSixtyMinutes() {
        about("WHEN: behind how many of 0 .. 60 MINUTES HOLDS is most");
        GumBubble x = one(6, 180, 99);
        due(x.when(0, 0), 60);
        due(x.when(0, 1), 131);
        GumBubble y = one(6, 183, 99);
        due(y.when(0, 0), 60);
        due(y.when(0, 1), 128);
        GumBubble z = one(6, 177, 99);
        due(z.when(0, 0), 59);
        due(z.when(0, 1), 131);
        GumBubble at = one(6, 0, 99);
        due(at.when(0, 0), 0);
        due(at.when(0, 1), 131);
    }

    private static void whenTheFirst() {
        about("WHEN: of several the first");
        GumBubble x = with("stretch 1 m=2|m=7", 0, 0);
        put(x, 0, 6, 0, 99);
        due(x.when(0, 0), 2);
        due(x.when(0, 1), 137);
        x.pass(3);
        due(x.when(0, 0), 4);
        GumBubble none = one(0, 0, 0);
        due(none.when(0, 0), 0);
        due(none.when(0, 1), 0);
    }

    private static void soonUpToSixtyMinutes() {
        about("SOON: the fewest MINUTES (0 .. 60) (-5: not by then)");
        GumBubble x = one(6, 183, 99);
        for (int n = 1; n <= 128; n++) due(x.soon(0, n), (n + 52 + 2) / 3);
        due(x.soon(0, 129), -5);
        due(x.soon(0, 131), -5);
        GumBubble y = one(6, 180, 99);
        due(y.soon(0, 131), 60);
        due(y.soon(0, 132), -5);
        due(y.soon(0, 129), 60);
        due(y.soon(0, 128), 59);
    }

    private static void soonOfNumbers() {
        about("SOON of one and n (1 .. 999)");
        due(wide(320, 99).soon(0, 999), 0);
        due(wide(321, 99).soon(0, 999), 1);
        due(wide(324, 99).soon(0, 999), 2);
        due(wide(499, 99).soon(0, 999), 60);
        due(wide(500, 99).soon(0, 999), 60);
        due(wide(501, 99).soon(0, 999), -5);
        due(wide(0, 0).soon(0, 1000), BAD);
        due(wide(0, 0).soon(0, 1), 0);
        due(wide(0, 0).soon(0, 0), BAD);
        about("SOON looks at each MINUTE as it is then");
        GumBubble m = with("stretch 7 m=3;stretch 3 m=8", 0, 0);
        put(m, 0, 6, 0, 99);
        due(m.soon(0, 131), 0);
        due(m.soon(0, 132), 3);
        due(m.soon(0, 131 + 42), 3);
        due(m.soon(0, 131 + 43), -5);
        m.pass(4);
        due(m.soon(0, 131 + 18), 4);
        due(m.soon(0, 131 + 19), 9);
        due(one(1, 29, 0).soon(0, 1), 0);
        due(one(0, 0, 0).soon(0, 1), -5);
    }

    private static void piecesTheFewest() {
        about("PIECES of one: by how many (0 .. 6) WHEN is most (of several the fewest)");
        GumBubble x = one(1, 20, 99);
        due(x.pieces(0, 0), 6);
        due(x.pieces(0, 1), 131);
        GumBubble none = with("wind 99;stiff 29 c=0", 0, 0);
        due(none.pieces(0, 0), 0);
        due(none.pieces(0, 1), 0);
        GumBubble five = with("sweet 0;stiff 5 p=6", 0, 0);
        due(five.pieces(0, 0), 5);
        due(five.pieces(0, 1), 150);
        GumBubble six = with("sweet 0;stiff 4 p=6", 0, 0);
        due(six.pieces(0, 0), 6);
        due(six.pieces(0, 1), 156);
        GumBubble none1 = with("sweet 0;stiff 29 p>0;wind 6", 0, 0);
        due(none1.pieces(0, 0), 0);
        GumBubble just = with("sweet 0;stiff 29 p>0;wind 5", 0, 0);
        due(just.pieces(0, 0), 6);
        due(just.pieces(0, 1), 1);
        about("PIECES: SUGAR being SWEET times that, its BUBBLE none, its JAW as it is");
        GumBubble sweet = with("sweet 40", 0, 0);
        put(sweet, 0, 6, 0, 99);
        due(sweet.blow(0, 99), 99);
        // behind 60 MINUTES 180 of SUGAR are chewed: of 5 PIECES 20 are left, of 6 even 60
        due(sweet.pieces(0, 0), 5);
        due(sweet.pieces(0, 1), 150 - 20 - 49);
        due(sweet.of(0, 5), 99);
    }

    private static void breathsBorne() {
        about("BREATHS of one and n (1 .. 99): how many the BUBBLE bears, one behind the other");
        GumBubble x = one(6, 81, 0);
        due(x.breaths(0, 0), BAD);
        due(x.breaths(0, 1), 99);
        due(x.breaths(0, 33), 3);
        due(x.breaths(0, 34), 2);
        due(x.breaths(0, 49), 2);
        due(x.breaths(0, 50), 1);
        due(x.breaths(0, 99), 1);
        due(x.breaths(0, 100), BAD);
        x.set(0, 1, 82);
        due(x.breaths(0, 99), 0);
        due(x.breaths(0, 98), 1);
        about("BREATHS: 0 also if it is more than HOLDS already");
        due(x.blow(0, 90), 90);
        due(x.breaths(0, 8), 1);
        due(x.breaths(0, 9), 0);
        x.set(0, 1, 90);
        due(x.breaths(0, 1), 0);
        x.set(0, 1, 89);
        due(x.breaths(0, 1), 1);
        x.set(0, 1, 91);
        due(x.breaths(0, 1), 0);
        x.set(0, 1, 180);
        due(x.breaths(0, 1), 0);
        due(x.breaths(0, 99), 0);
        x.set(0, 0, 0);
        due(x.breaths(0, 1), 0);
    }

    private static void slackBelowNought() {
        about("SLACK of one: how much larger the BUBBLE could be (may be below 0)");
        GumBubble x = one(6, 0, 0);
        due(x.slack(0), 180);
        due(x.blow(0, 90), 90);
        int[][] dues = {{0, 90}, {89, 1}, {90, 0}, {91, -1}, {179, -89}, {180, -90}, {999, -90}};
        for (int[] d : dues) {
            x.set(0, 1, d[0]);
            due(x.slack(0), d[1]);
        }
        due(x.slack(1), -10001);
        due(x.slack(-1), -10001);
        due(new GumBubble().slack(0), -10001);
    }

    private static void likelyOfThinPlaces() {
        about("A THIN place of d (0 .. 9): HOLDS is 5 times d less then (0 at least)");
        int[] hold = {0, 1, 4, 5, 6, 10, 29, 30, 44, 45, 46, 50, 99};
        for (int holds : hold) {
            GumBubble x = one(6, 180 - holds, 0);
            due(x.of(0, 10), holds);
            for (int n = 0; n <= 100; n++) {
                int alike = 0;
                for (int d = 0; d <= 9; d++) if (n == 0 || n + 5 * d <= holds) alike++;
                int common = alike == 0 ? 10 : alike == 5 ? 5 : alike == 10 ? 10 : alike % 2 == 0 ? 2 : 1;
                due(x.likely(0, n, 0), alike / common);
                due(x.likely(0, n, 1), 10 / common);
            }
        }
        about("LIKELY of one and n (0 .. 999)");
        part(wide(324, 0), 999, 1, 1);
        part(wide(325, 0), 999, 9, 10);
        part(wide(369, 0), 999, 1, 10);
        part(wide(370, 0), 999, 0, 1);
        due(wide(0, 0).likely(0, 1000, 0), NO);
        due(wide(0, 0).likely(0, -1, 1), NO);
        part(one(0, 0, 0), 0, 1, 1);
        part(one(0, 0, 0), 1, 0, 1);
    }

    private static void part(GumBubble x, int n, long above, long below) {
        due(x.likely(0, n, 0), above);
        due(x.likely(0, n, 1), below);
    }

    private static void dareTheLeast() {
        about("DARE of one: the n (0 .. 999) by which n times LIKELY is greatest (of several the least)");
        // the best of (HOLDS - 5 d)(d + 1); at 10, 20, .. two of them are alike
        int[][] dues = {{0, 0}, {1, 1}, {9, 9}, {10, 5}, {11, 6}, {19, 14}, {20, 10}, {21, 11}, {30, 15}, {90, 45}, {91, 46},
            {89, 49}, {100, 55}, {180, 135}};
        for (int[] d : dues) due(one(6, 180 - d[0], 0).dare(0), d[1]);
        due(wide(324, 0).dare(0), 999);
        due(wide(325, 0).dare(0), 998);
        due(wide(369, 0).dare(0), 954);
        due(wide(323, 0).dare(0), 999);
        due(wide(0, 0).dare(0), 999);
        due(one(0, 0, 0).dare(0), 0);
    }

    private static void firstOfSeveral() {
        about("FIRST: the greatest HOLDS (of several the first; -5: nobody is there)");
        due(new GumBubble().first(), -5);
        due(of(0, 0).first(), 0);
        due(one(0, 0, 0).first(), 0);
        GumBubble x = of(0, 0, 0, 0, 0, 0, 0, 0, 0, 0);
        due(x.first(), 0);
        for (int c = 1; c < 5; c++) {
            x.set(c, 1, 20 - c);
            due(x.first(), c);
        }
        x.set(2, 1, 16);
        due(x.first(), 2);
        for (int c = 0; c < 5; c++) x.set(c, 0, 0);
        due(x.first(), 0);
    }

    private static void beatsOfTwo() {
        about("BEATS: how likely the one's HOLDS is more, each with a THIN place of its own");
        GumBubble x = of(0, 0, 0, 0);
        int[] holds = {0, 1, 5, 10, 44, 45, 46, 90, 91, 100, 180};
        for (int a : holds) {
            for (int b : holds) {
                put(x, 0, 6, 180 - a, 0);
                put(x, 1, 6, 180 - b, 0);
                int more = 0;
                for (int d = 0; d < 10; d++) {
                    for (int e = 0; e < 10; e++) if (a > 5 * d && (a - 5 * d > b - 5 * e)) more++;
                }
                int common = 1;
                for (int c : new int[] {2, 4, 5, 10, 20, 25, 50, 100}) if (more % c == 0) common = c;
                due(x.beats(0, 1, 0), more / common);
                due(x.beats(0, 1, 1), 100 / common);
            }
            x = of(0, 0, 0, 0);
        }
        about("BEATS: a fraction in lowest terms, none and all");
        put(x, 0, 6, 134, 0);
        put(x, 1, 0, 0, 0);
        due(x.beats(0, 1, 0), 1);
        due(x.beats(0, 1, 1), 1);
        due(x.beats(1, 0, 0), 0);
        due(x.beats(1, 0, 1), 1);
        put(x, 0, 6, 135, 0);
        due(x.beats(0, 1, 0), 9);
        due(x.beats(0, 1, 1), 10);
    }

    private static void swapIfMore() {
        about("SWAP: if more than they are (-5: none)");
        due(new GumBubble().swap(), -5);
        due(of(0, 0).swap(), -5);
        due(of(0, 0, 0, 0).swap(), -5);
        // by p=2 one of them gets 1 more of STRETCH for each PIECE
        GumBubble x = with("stretch 1 c=1", 0, 0, 0, 0);
        put(x, 0, 2, 0, 0);
        put(x, 1, 2, 0, 0);
        due(x.swap(), -5);
        x.set(0, 0, 3);
        due(x.swap(), 1);
        x.set(1, 0, 4);
        due(x.swap(), -5);
        about("SWAP: most now");
        GumBubble m = with("stretch 9 m=2&c=1;stretch 9 m=1&c=0", 0, 0, 0, 0);
        put(m, 0, 2, 0, 0);
        put(m, 1, 1, 0, 0);
        due(m.swap(), -5);
        m.pass(1);
        due(m.swap(), -5);
        m.pass(1);
        due(m.swap(), 1);
        m.pass(1);
        due(m.swap(), -5);
        about("SWAP: PIECES and SUGAR, but not JAW");
        GumBubble y = of(0, 0, 0, 0);
        put(y, 0, 1, 29, 99);
        put(y, 1, 0, 0, 0);
        due(y.told(3), 0);
        due(y.swap(), 1);
        y.set(0, 1, 30);
        due(y.swap(), -5);
        put(y, 0, 0, 0, 99);
        put(y, 1, 1, 0, 0);
        due(y.swap(), -5);
    }

    private static void swapTheFirst() {
        about("SWAP: 10 times the lesser and the greater number; of several the first");
        for (int one = 0; one < 5; one++) {
            for (int other = one + 1; other < 5; other++) {
                GumBubble x = with("stretch 9 c=" + other, 0, 0, 0, 0, 0, 0, 0, 0, 0, 0);
                put(x, one, 2, 20, 0);
                due(x.swap(), 10 * one + other);
            }
        }
        GumBubble x = with("stretch 9 c=2|c=4", 0, 0, 0, 0, 0, 0, 0, 0, 0, 0);
        put(x, 1, 2, 20, 0);
        due(x.swap(), 12);
        put(x, 0, 2, 20, 0);
        due(x.swap(), 2);
        put(x, 3, 3, 20, 0);
        due(x.swap(), 23);
        GumBubble most = with("stretch 9 c=2;stretch 8 c=1", 0, 0, 0, 0, 0, 0);
        put(most, 0, 3, 20, 0);
        due(most.swap(), 2);
    }

    private static void orderOfFewAndFive() {
        about("ORDER: k -1 how much, else the k-th (-5: there are fewer)");
        for (int many = 0; many <= 5; many++) {
            GumBubble x = new GumBubble();
            for (int c = 0; c < many; c++) {
                x.child(0, 0);
                put(x, c, 0, 0, 0);
            }
            due(x.order(-2), NONE);
            due(x.order(-1), 0);
            for (int k = 0; k <= 4; k++) due(x.order(k), k < many ? k : -5);
            due(x.order(5), NONE);
        }
        about("ORDER: the k-th is looked at behind k MINUTES");
        GumBubble x = with("stretch 9 c=4&m=0|c=3&m=1|c=2&m=2|c=1&m=3|c=0&m=4", 0, 0, 0, 0, 0, 0, 0, 0, 0, 0);
        for (int c = 0; c < 5; c++) put(x, c, 1, 0, 0);
        due(x.order(-1), 39 + 39 + 38 + 38 + 37);
        for (int k = 0; k < 5; k++) due(x.order(k), 4 - k);
        x.pass(1);
        for (int c = 0; c < 5; c++) x.set(c, 2, 0);
        due(x.order(-1), 39 + 39 + 38 + 38 + 28);
        int[] dues = {3, 2, 1, 0, 4};
        for (int k = 0; k < 5; k++) due(x.order(k), dues[k]);
    }

    private static void orderTheFirst() {
        about("ORDER: of several the first as a row");
        GumBubble x = with("stretch 9 m=1&c>1", 0, 0, 0, 0, 0, 0, 0, 0);
        for (int c = 0; c < 4; c++) put(x, c, 1, 0, 0);
        int[] dues = {0, 2, 1, 3};
        for (int k = 0; k < 4; k++) due(x.order(k), dues[k]);
        due(x.order(4), -5);
        due(x.order(-1), 30 + 39 + 29 + 29);
    }

    private static void cleanRoundedUp() {
        about("CLEAN of one and n (1 .. 99), rounded up");
        GumBubble x = one(1, 30, 0);
        due(x.clean(0, 1), 0);
        due(x.clean(0, 99), 0);
        for (int i = 0; i < 11; i++) due(x.blow(0, 99), -6);
        due(x.of(0, 6), 99);
        due(x.clean(0, 0), BAD);
        due(x.clean(0, 1), 99);
        due(x.clean(0, 33), 3);
        due(x.clean(0, 32), 4);
        due(x.clean(0, 34), 3);
        due(x.clean(0, 98), 2);
        due(x.clean(0, 99), 1);
        due(x.clean(0, 100), BAD);
        due(x.blow(0, 10), -6);
        due(x.clean(0, 99), 2);
        due(x.clean(0, 1), 100);
    }

    private static void seenAreFive() {
        about("SEEN: HOLDS (0 .. 999) behind n MINUTES (0 .. 20); 5 at most");
        GumBubble x = of(0, 0);
        due(x.see(0, -1, 0), BAD);
        due(x.see(0, 1000, 0), BAD);
        due(x.see(0, 0, -1), BAD);
        due(x.see(0, 0, 21), BAD);
        due(x.count(2), 0);
        due(x.see(0, 0, 0), 1);
        due(x.see(0, 999, 0), 2);
        due(x.see(0, 0, 20), 3);
        due(x.see(0, 999, 20), 4);
        due(x.see(0, 5, 5), 5);
        due(x.see(0, 5, 5), FULL);
        due(x.count(2), 5);
        about("child -1: none then, 0, whatever the others are");
        due(x.see(-1, -1, 21), 0);
        due(x.count(2), 0);
        due(x.see(-1, 0, 0), 0);
        due(x.see(0, 10, 0), 1);
        due(x.firm(0, 0), 10);
        about("SEEN: the fifth counts as the first does");
        for (int i = 2; i <= 4; i++) due(x.see(0, 10, 0), i);
        due(x.firm(0, 0), 10);
        due(x.see(0, 11, 0), 5);
        due(x.firm(0, 0), 0);
        due(x.see(0, 10, 0), FULL);
        due(x.firm(0, 0), 0);
        about("SEEN: behind n MINUTES from now, 20 the last");
        GumBubble y = one(6, 100, 99);
        due(y.see(0, 131 - 40, 20), 1);
        due(y.firm(0, 0), 2);
        due(y.firm(0, 1), 0);
        due(y.see(0, 31, 0), 2);
        due(y.firm(0, 0), 2);
        y.pass(1);
        due(y.firm(0, 0), 0);
        due(wide(320, 99).see(0, 999, 0), 1);
        GumBubble z = wide(320, 99);
        z.see(0, 999, 0);
        due(z.firm(0, 0), 10);
        z.set(0, 1, 319);
        due(z.firm(0, 0), 0);
    }

    private static void whoIsIt() {
        about("WHO of h and n (0 .. 999; 0 .. 40), as bits");
        due(new GumBubble().who(0, 0), 0);
        due(new GumBubble().who(999, 40), 0);
        GumBubble x = of(0, 0, 0, 0, 0, 0, 0, 0, 0, 0);
        due(x.who(10, 0), 31);
        for (int c = 0; c < 5; c++) x.set(c, 1, 20 + c);
        for (int c = 0; c < 5; c++) due(x.who(10 - c, 0), 1 << c);
        due(x.who(5, 0), 0);
        due(x.who(11, 0), 0);
        due(x.who(-1, 0), BAD);
        due(x.who(1000, 0), BAD);
        due(x.who(0, -1), BAD);
        due(x.who(0, 41), BAD);
        for (int c = 0; c < 5; c++) put(x, c, c, 0, 0);
        due(x.who(0, 0), 1);
        due(x.who(120, 0), 16);
        GumBubble y = one(6, 130, 99);
        due(y.who(1, 0), 1);
        due(y.who(121, 40), 1);
        due(y.who(118, 39), 1);
        due(y.who(118, 40), 0);
        GumBubble w = wide(320, 99);
        due(w.who(999, 0), 1);
        w.set(0, 1, 319);
        due(w.who(999, 0), 0);
        due(w.who(1000, 0), BAD);
    }

    private static void firmOfNumbers() {
        about("FIRM of one: how many numbers v (0 .. 9); the least (-5: none)");
        for (int v = 0; v <= 9; v++) {
            GumBubble x = with("stretch 1 v=" + v, 0, 5);
            due(x.firm(0, 0), 10);
            due(x.firm(0, 1), 0);
            due(x.see(0, 11, 0), 1);
            due(x.firm(0, 0), 1);
            due(x.firm(0, 1), v);
            due(x.see(-1, 0, 0), 0);
            due(x.see(0, 10, 0), 1);
            due(x.firm(0, 0), 9);
            due(x.firm(0, 1), v == 0 ? 1 : 0);
            due(x.see(0, 11, 0), 2);
            due(x.firm(0, 0), 0);
            due(x.firm(0, 1), -5);
            due(x.of(0, 1), 5);
        }
        GumBubble never = with("stretch 1 v=10|v>9", 0, 5);
        never.see(0, 11, 0);
        due(never.firm(0, 0), 0);
        due(never.firm(0, 1), -5);
        about("FIRM: were that its v now, a BUBBLE loses by it, too");
        GumBubble b = one(1, 0, 0);
        due(b.blow(0, 6), 6);
        b.set(0, 1, 9);
        // by v 0 and 1 it lasts for three MINUTES, by 2 and 3 for two, by 4 too, who then chews 5
        due(b.see(0, 26, 3), 1);
        due(b.firm(0, 0), 1);
        due(b.firm(0, 1), 4);
        b.see(-1, 0, 0);
        due(b.see(0, 21, 3), 1);
        due(b.firm(0, 0), 2);
        due(b.firm(0, 1), 0);
        b.see(-1, 0, 0);
        due(b.see(0, 25, 3), 1);
        due(b.firm(0, 0), 2);
        due(b.firm(0, 1), 2);
        about("FIRM: only the one's v is another");
        GumBubble two = with("stretch 1 v=9", 0, 5, 0, 5);
        two.see(1, 11, 0);
        due(two.firm(0, 0), 0);
        due(two.firm(1, 0), 1);
        due(two.firm(1, 1), 9);
    }

    private static void hadPieces() {
        about("HAD of one: those PIECES (0 .. 6), as bits");
        GumBubble x = of(0, 0, 0, 0);
        due(x.had(0), 127);
        for (int pieces = 0; pieces <= 6; pieces++) {
            x.see(-1, 0, 0);
            due(x.see(0, Math.max(0, 30 * pieces - 20), 0), 1);
            due(x.had(0), 1 << pieces);
            due(x.had(1), pieces == 1 ? 127 : 0);
        }
        x.see(-1, 0, 0);
        x.set(0, 1, 180);
        x.see(0, 0, 0);
        due(x.had(0), 127);
        x.set(0, 1, 179);
        due(x.had(0), 63);
        x.see(0, 1, 0);
        due(x.had(0), 0);
        about("HAD: all else as it is");
        GumBubble b = one(1, 0, 0);
        due(b.blow(0, 3), 3);
        b.set(0, 1, 10);
        b.see(0, 50, 3);
        b.see(0, 51, 4);
        due(b.had(0), 0);
        b.see(-1, 0, 0);
        b.see(0, 50, 3);
        due(b.had(0), 4);
        due(b.of(0, 2), 1);
    }

    private static void meanOfAll() {
        about("MEAN of n (0 .. 60): a fraction in lowest terms (NO: nobody is there)");
        for (int n = 0; n <= 60; n += 60) {
            due(new GumBubble().mean(n, 0), NO);
            due(new GumBubble().mean(n, 1), NO);
        }
        GumBubble x = one(6, 183, 99);
        due(x.mean(0, 0), 0);
        due(x.mean(0, 1), 1);
        due(x.mean(59, 0), 125);
        due(x.mean(60, 0), 128);
        due(x.mean(60, 1), 1);
        due(x.mean(61, 0), NO);
        due(x.mean(-1, 0), NO);
        due(x.mean(0, -1), NO);
        due(x.mean(0, 2), NO);
        GumBubble five = of(0, 0, 0, 0, 0, 0, 0, 0, 0, 0);
        for (int c = 1; c < 5; c++) five.set(c, 0, 0);
        int[][] dues = {{10, 20, 1}, {9, 21, 5}, {11, 19, 5}, {30, 0, 1}, {5, 25, 1}, {29, 1, 5}};
        for (int[] d : dues) {
            five.set(0, 1, d[0]);
            due(five.mean(0, 0), d[2] == 1 ? d[1] / 5 : d[1]);
            due(five.mean(0, 1), d[2]);
        }
        GumBubble two = of(0, 0, 0, 0);
        two.set(0, 1, 19);
        due(two.mean(0, 0), 21);
        due(two.mean(0, 1), 2);
        two.set(1, 1, 19);
        due(two.mean(0, 0), 11);
        due(two.mean(0, 1), 1);
    }

    private static void planHasEightRows() {
        about("PLAN: rows of what 0 .. 3; 8 at most");
        GumBubble x = one(6, 101, 0);
        due(x.done(0), 0);
        due(x.done(1), 0);
        for (int n = 1; n <= 7; n++) {
            due(x.plan(3, 0), n);
            due(x.done(0), 10 * n);
        }
        due(x.done(1), 0);
        due(x.plan(3, 0), 8);
        due(x.done(0), 0);
        due(x.done(1), 8);
        due(x.plan(3, 0), FULL);
        due(x.plan(0, 0), FULL);
        due(x.count(3), 8);
        due(x.done(1), 8);
        x.set(0, 1, 100);
        due(x.done(0), 80);
        due(x.done(1), 0);
        due(x.of(0, 5), 0);
        about("what -1: none then, 0, whatever the other is");
        due(x.plan(-1, 99), 0);
        due(x.count(3), 0);
        due(x.done(0), 0);
        due(x.plan(-1, -1), 0);
        due(x.plan(3, 0), 1);
        due(x.done(0), 10);
        about("PLAN 0: a MINUTE goes (one not looked at)");
        GumBubble y = new GumBubble();
        int[] any = {-1, 0, 5, 99, Integer.MIN_VALUE, Integer.MAX_VALUE};
        for (int i = 0; i < any.length; i++) due(y.plan(0, any[i]), i + 1);
        due(y.done(0), 0);
    }

    private static void planPieces() {
        about("PLAN 1: a PIECE more (6 at most), and SUGAR is SWEET more in any case");
        borne(one(5, 150, 0), true, 1, 3);
        borne(one(5, 151, 0), false, 1, 3);
        borne(one(6, 150, 0), true, 1, 3);
        borne(one(6, 151, 0), false, 1, 3);
        borne(one(4, 130, 0), true, 1, 1, 3);
        borne(one(4, 131, 0), false, 1, 1, 3);
        borne(one(0, 0, 0), true, 1, 3);
        borne(one(0, 0, 2), false, 1, 3);
        about("PLAN 1: SUGAR 999 at most");
        for (int wind = 11; wind <= 12; wind++) {
            for (int sugar : new int[] {900, 901, 950, 999}) {
                GumBubble x = with("sweet 99;stretch 99 p=6;stretch 41 p=6;wind " + wind, 0, 0);
                put(x, 0, 6, sugar, 0);
                borne(x, wind == 11, 1, 3);
            }
            GumBubble less = with("sweet 99;stretch 99 p=6;stretch 41 p=6;wind " + (wind + 1), 0, 0);
            put(less, 0, 6, 899, 0);
            borne(less, wind == 11, 1, 3);
        }
    }

    /** Whether the last BREATH of 10 is borne by the plan; each other row's what is told, too. */
    private static void borne(GumBubble x, boolean isBorne, int... whats) {
        due(x.plan(-1, 0), 0);
        for (int i = 0; i < whats.length; i++) due(x.plan(whats[i], 0), i + 1);
        due(x.done(0), isBorne ? 10 : 0);
        due(x.done(1), isBorne ? 0 : 1);
    }

    private static void planSpitsAndBlows() {
        about("PLAN 2: all is spat out (PIECES, SUGAR, BUBBLE 0)");
        GumBubble x = one(6, 0, 0);
        due(x.blow(0, 50), 50);
        x.plan(2, 0);
        due(x.done(0), 0);
        due(x.done(1), 0);
        borne(x, true, 2, 1, 3);
        x.set(0, 1, 179);
        borne(x, true, 2, 1, 3);
        x.set(0, 2, 1);
        borne(x, true, 2, 1, 3);
        x.set(0, 2, 2);
        borne(x, false, 2, 1, 3);
        about("PLAN 3: a BREATH of 10, of one without PIECES, as NOTES.md reads it");
        borne(x, false, 2, 3);
        about("PLAN 3: a BREATH of 10 at HOLDS, and above");
        borne(one(1, 20, 0), true, 3);
        borne(one(1, 21, 0), false, 3);
        about("DONE: BUBBLES of all, together; HAIR that is more, together");
        GumBubble two = of(0, 0, 0, 0, 0, 0);
        due(two.blow(2, 99), -6);
        due(two.blow(2, 7), 7);
        two.plan(3, 0);
        two.plan(3, 1);
        due(two.done(0), 27);
        due(two.done(1), 0);
        two.plan(3, 0);
        two.plan(3, 2);
        due(two.done(0), 10);
        due(two.done(1), 3);
        two.plan(0, 0);
        due(two.done(0), 9);
        due(two.of(2, 6), 9);
        due(two.of(2, 5), 7);
    }

    private static void planBeyondTheLastMinute() {
        about("PLAN: MINUTES beyond 9999, too");
        GumBubble x = with("stiff 29 m=9;stretch 1 m=1", 0, 0);
        for (int i = 0; i < 166; i++) x.pass(60);
        due(x.pass(39), 9999);
        put(x, 0, 1, 0, 0);
        borne(x, false, 3);
        borne(x, true, 0, 3);
        put(x, 0, 1, 24, 0);
        borne(x, false, 0, 3);
        borne(x, true, 0, 0, 3);
        due(x.told(0), 9999);
    }

    private static void bookHasEightRows() {
        about("BOOK: CHILDREN and BUBBLES (0 .. 999); 8 at most");
        GumBubble x = of(0, 0);
        due(x.book(0, -1), BAD);
        due(x.book(0, 1000), BAD);
        due(x.book(0, 0), 1);
        due(x.looked(), -5);
        for (int n = 2; n <= 7; n++) due(x.book(0, 0), n);
        due(x.looked(), -5);
        due(x.book(0, 999), 8);
        due(x.looked(), 7);
        due(x.book(0, 0), FULL);
        due(x.book(0, 1000), BAD);
        due(x.book(1, 0), NONE);
        due(x.count(4), 8);
        due(x.looked(), 7);
        about("child -1: none then, 0, whatever the other is");
        due(x.book(-1, 1000), 0);
        due(x.count(4), 0);
        due(x.looked(), -5);
        due(x.book(-1, -1), 0);
        due(x.book(0, 1), 1);
        due(x.looked(), 0);
    }

    private static void lookedAtTheFirst() {
        about("LOOKED at: the first by which it is otherwise now (-5: none)");
        due(new GumBubble().looked(), -5);
        GumBubble x = of(0, 0, 0, 0, 0, 0);
        x.book(2, 5);
        x.book(1, 0);
        x.book(0, 3);
        due(x.looked(), 0);
        due(x.blow(2, 5), 5);
        due(x.looked(), 2);
        due(x.blow(0, 3), 3);
        due(x.looked(), -5);
        due(x.blow(1, 1), 1);
        due(x.looked(), 1);
        x.pass(1);
        due(x.looked(), 0);
        GumBubble w = wide(0, 0);
        due(w.book(0, 999), 1);
        for (int i = 1; i <= 10; i++) due(w.blow(0, 99), 99 * i);
        due(w.blow(0, 9), 999);
        due(w.looked(), -5);
        due(w.blow(0, 1), 1000);
        due(w.looked(), 0);
    }

    private static void actsWrap() {
        about("ACTS of a CHILD with x (ints, wrapping)");
        int max = Integer.MAX_VALUE, min = Integer.MIN_VALUE;
        GumBubble x = of(0, 0, 0, 1, 1, 0, 2, 1, 3, 9);
        due(x.act(0, 0, max), max);
        due(x.act(0, 0, min), min);
        due(x.act(1, 0, max), min);
        due(x.act(1, 0, max - 1), max);
        due(x.act(1, 1, max), max);
        due(x.act(1, 1, min), min);
        due(x.act(4, 1, min), max - 4);
        due(x.act(4, 1, min + 5), min);
        due(x.act(0, 2, 1 << 30), min);
        due(x.act(0, 2, (1 << 30) - 1), max - 1);
        due(x.act(0, 2, max), -2);
        due(x.act(0, 2, min), 0);
        due(x.act(2, 0, 715827882), max - 1 + 2 + min + min);
        due(x.act(2, 0, 715827883), min + 3);
        due(x.act(3, 1, min - 2), min);
        due(x.act(3, 1, min - 3), min + 1);
        due(x.act(3, 1, min + 2), min + 4 - 8);
        GumBubble y = of(4, 9, 5, 1, 6, 9, 6, 0);
        due(y.act(0, 2, min), (3 * (min - 1) - 9) * 2 + 6);
        due(y.act(0, 2, min + 1), (3 * min - 9) * 2 + 6);
        due(y.act(1, 0, max), min ^ 1);
        due(y.act(2, 1, max), min + 1);
        due(y.act(2, 2, max), (2 * (min + 1)) ^ 7);
        due(y.act(3, 0, max), min + 2);
    }

    private static void tracesOfTheLatest() {
        about("THE TRACE: the bodies that ran in the latest act(), as they began");
        GumBubble x = of(4, 2, 0, 0);
        due(x.trace(0), NONE);
        due(x.count(6), 0);
        x.act(0, 2, 5);
        int[] bodies = {41, 3, 2, 11, 1, 11, 1};
        due(x.count(6), 7);
        for (int i = 0; i < 7; i++) due(x.trace(i), bodies[i]);
        for (int i : new int[] {-1, 7, 8, 19, 20, Integer.MIN_VALUE, Integer.MAX_VALUE}) due(x.trace(i), NONE);
        x.act(1, 0, 5);
        due(x.count(6), 1);
        due(x.trace(0), 1);
        due(x.trace(1), NONE);
        about("act: 0, and no TRACE then: no such CHILD, act");
        int[][] none = {{-1, 0}, {2, 0}, {0, -1}, {0, 3}, {Integer.MAX_VALUE, 0}, {0, Integer.MIN_VALUE}};
        for (int[] n : none) {
            x.act(0, 1, 5);
            due(x.count(6), 3);
            due(x.act(n[0], n[1], 5), 0);
            due(x.count(6), 0);
            due(x.trace(0), NONE);
        }
        due(new GumBubble().act(0, 0, 5), 0);
    }

    private static void asKinds() {
        about("A CHILD taken for a KIND k (0 .. 6), or one under that: its v; -6: it is of another KIND");
        int[] above = {-1, 0, 0, 0, 1, 2, 3};
        for (int kind = 0; kind <= 6; kind++) {
            GumBubble x = of(kind, 9, kind, 0);
            for (int k = 0; k <= 6; k++) {
                boolean is = k == kind || k == above[kind] || k == 0;
                due(x.as(0, k), is ? 9 : -6);
                due(x.as(1, k), is ? 0 : -6);
            }
            due(x.as(0, -1), NONE);
            due(x.as(0, 7), NONE);
        }
    }

    private static void imageAndUndo() {
        about("THE IMAGE is taken of nobody and of five: how many CHILDS there are");
        GumBubble x = new GumBubble();
        due(x.undo(), STATE);
        for (int many = 0; many <= 5; many++) {
            due(x.image(), many);
            due(x.undo(), many);
            if (many < 5) due(x.child(0, many), many);
        }
        due(x.undo(), 5);
        about("All is as THE IMAGE, of an empty one, too");
        GumBubble y = new GumBubble();
        due(y.image(), 0);
        fill(y);
        due(y.undo(), 0);
        for (int what = 0; what <= 5; what++) due(y.count(what), 0);
        due(y.told(0), 0);
        due(y.told(1), 0);
        due(y.told(2), 20);
        due(y.of(0, 0), NONE);
        due(y.child(6, 0), 0);
        due(y.of(0, 2), 1);
        due(y.of(0, 6), 0);
        for (int k = 0; k < 4; k++) due(y.row(0, k, 0), 0);
        due(y.undo(), 0);
        about("All is as THE IMAGE, of a full one, too");
        GumBubble z = new GumBubble();
        fill(z);
        due(z.image(), 5);
        z.see(-1, 0, 0);
        z.plan(-1, 0);
        z.book(-1, 0);
        for (int c = 0; c < 5; c++) put(z, c, 0, 0, 0);
        z.row(0, 0, 1);
        due(z.undo(), 5);
        int[] counts = {5, 5, 5, 8, 8, 100};
        for (int what = 0; what <= 5; what++) due(z.count(what), counts[what]);
        due(z.child(0, 0), FULL);
        due(z.afternoon(), FULL);
        due(z.see(0, 0, 0), FULL);
        due(z.plan(0, 0), FULL);
        due(z.book(0, 0), FULL);
        due(z.feed('w'), FULL);
        due(z.row(0, 0, 1), 9);
        due(z.of(1, 6), 9);
        due(z.told(0), 1);
        due(z.told(1), 5);
        about("THE IMAGE: what is SEEN, the PLAN and BOOK row by row");
        GumBubble rows = of(0, 0, 0, 0);
        rows.see(0, 10, 0);
        rows.see(1, 13, 1);
        rows.plan(3, 0);
        rows.plan(0, 1);
        rows.book(0, 0);
        rows.book(1, 1);
        due(rows.image(), 2);
        for (int round = 0; round < 2; round++) {
            due(rows.firm(0, 0), 10);
            due(rows.had(0), 2);
            due(rows.done(0), 9);
            due(rows.done(1), 0);
            due(rows.looked(), 1);
            for (int i = -1; i < 2; i++) rows.see(i, 11, 0);
            for (int i = -1; i < 2; i++) rows.plan(i, 0);
            for (int i = -1; i < 2; i++) rows.book(i, 1 - i);
            due(rows.firm(0, 0), 0);
            due(rows.done(0), 0);
            due(rows.looked(), 0);
            due(rows.undo(), 2);
        }
        about("THE IMAGE: THE TAPE sign by sign");
        GumBubble tape = new GumBubble();
        for (char c : "wind 1".toCharArray()) tape.feed(c);
        tape.image();
        due(tape.feed('0'), 7);
        due(tape.afternoon(), 0);
        due(tape.told(1), 10);
        due(read(tape, "sweet 3;wind 7"), 1);
        due(tape.undo(), 0);
        due(tape.count(5), 6);
        due(tape.count(1), 0);
        due(tape.told(1), 0);
        due(tape.told(2), 20);
        due(tape.afternoon(), 0);
        due(tape.told(1), 1);
        about("THE IMAGE: all that there is (but THE IMAGE and THE TRACE)");
        due(z.act(0, 0, 1), 1);
        due(z.count(6), 1);
        due(z.undo(), 5);
        due(z.count(6), 1);
        due(z.trace(0), 1);
        due(z.undo(), 5);
    }

    private static void fill(GumBubble x) {
        for (int n = 1; n <= 5; n++) due(read(x, "wind " + n), n - 1);
        for (int c = 0; c < 5; c++) due(x.child(6, 9), c);
        for (int k = 0; k < 4; k++) due(x.row(0, k, 9), 0);
        due(x.blow(1, 99), -6);
        due(x.pass(1), 1);
        for (int n = 1; n <= 5; n++) due(x.see(0, n, n), n);
        for (int n = 1; n <= 8; n++) due(x.plan(1, 0), n);
        for (int n = 1; n <= 8; n++) due(x.book(0, n), n);
        for (int n = 1; n <= 100; n++) due(x.feed('w'), n);
    }

    private static void minutesUpToTheLast() {
        about("pass: n MINUTES (0 .. 60); STATE: it would be above 9999");
        GumBubble x = of(0, 0);
        due(x.pass(-1), BAD);
        due(x.pass(61), BAD);
        due(x.pass(0), 0);
        for (int i = 1; i <= 165; i++) due(x.pass(60), 60 * i);
        due(x.pass(40), 9940);
        due(x.pass(60), STATE);
        due(x.pass(61), BAD);
        due(x.pass(-1), BAD);
        due(x.told(0), 9940);
        due(x.pass(59), 9999);
        due(x.pass(0), 9999);
        due(x.pass(1), STATE);
        due(x.pass(60), STATE);
        due(x.told(0), 9999);
        about("goes on from how all is (MINUTES beyond 9999, too)");
        put(x, 0, 6, 183, 99);
        due(x.on(60, 20), 3);
        due(x.when(0, 0), 60);
        due(x.soon(0, 128), 60);
        due(x.who(131 - 183 + 120, 40), 1);
        due(x.mean(60, 0), 128);
        due(x.see(0, 131 - 183 + 60, 20), 1);
        due(x.firm(0, 1), 0);
        due(x.order(-1), 0);
        due(x.pieces(0, 1), 131);
    }
}
