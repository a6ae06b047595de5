/** Paragraph 1 of the Terms: each sentence that names a bound, at the last that is taken and the first that is not. */
public final class TermsEdgeTest extends TestKit {
    public static void main(String[] args) {
        childrenAreFive();
        whatAChildHasAtFirst();
        theTapeHasAHundredBytes();
        clausesAreTen();
        numbersHaveOneOrTwoDigits();
        blanksAreOne();
        wordsAndSigns();
        atMostFiveAreOpen();
        faultOfEachStart();
        faultOfEachByte();
        afternoonsAreFive();
        theNewestHolds();
        theLastNumberHolds();
        testsAtTheirNumbers();
        whatStandsInTests();
        minutesModuloTen();
        stretchIsOneAtLeast();
        chewsOfEachKind();
        tiresOfEachKind();
        holdsIsNoughtAtLeast();
        carefulHoldsTenLess();
        bubblesShrinkToNought();
        sugarFallsToNought();
        jawRisesToNinetyNine();
        jawRestsToNought();
        breathsBurstAboveHolds();
        hairIsTheTenth();
        end("TermsEdgeTest");
    }

    private static void childrenAreFive() {
        about("CHILDREN are numbered from 0 on, 5 at most");
        GumBubble x = new GumBubble();
        for (int n = 0; n < 5; n++) {
            due(x.of(n, 0), NONE);
            due(x.child(0, 0), n);
            due(x.of(n, 0), 0);
        }
        due(x.child(0, 0), FULL);
        due(x.of(5, 0), NONE);
        due(x.count(0), 5);
        about("each of a KIND (0 .. 6); a number v (0 .. 9)");
        for (int kind = 0; kind <= 6; kind++) due(of(kind, 0).of(0, 0), kind);
        for (int v = 0; v <= 9; v++) due(of(0, v).of(0, 1), v);
        GumBubble y = new GumBubble();
        due(y.child(-1, 0), NONE);
        due(y.child(7, 0), NONE);
        due(y.child(0, -1), BAD);
        due(y.child(0, 10), BAD);
        due(y.count(0), 0);
    }

    private static void whatAChildHasAtFirst() {
        about("PIECES 1, JAW 0, BUBBLE 0, HAIR 0, ROW 0, MINUTE 0 at first");
        GumBubble x = of(6, 0);
        due(x.of(0, 2), 1);
        due(x.of(0, 4), 0);
        due(x.of(0, 5), 0);
        due(x.of(0, 6), 0);
        for (int k = 0; k < 4; k++) due(x.row(0, k, 9), 0);
        due(x.told(0), 0);
        about("SUGAR: SWEET times PIECES at first");
        due(x.of(0, 3), 20);
        due(with("sweet 0", 0, 0).of(0, 3), 0);
        due(with("sweet 99", 0, 0).of(0, 3), 99);
        GumBubble late = of(0, 0);
        late.pass(3);
        due(late.child(6, 0), 1);
        due(late.of(1, 3), 20);
    }

    private static void theTapeHasAHundredBytes() {
        about("THE TAPE (bytes, 100 at most), signs 0 .. 127");
        for (int first = 0; first < 128; first += 100) {
            GumBubble x = new GumBubble();
            for (int i = 0; i < 100 && first + i < 128; i++) due(x.feed(first + i), i + 1);
        }
        String text = "stiff 9 " + "c=0|".repeat(22) + "c=10";
        due(text.length(), 100);
        GumBubble x = with("", 0, 0);
        for (int i = 0; i < 100; i++) due(x.feed(text.charAt(i)), i + 1);
        due(x.feed('9'), FULL);
        due(x.feed(-1), BAD);
        due(x.feed(128), BAD);
        due(x.count(5), 100);
        due(x.afternoon(), 0);
        due(x.of(0, 7), 21);
        due(x.count(5), 0);
        due(x.feed('w'), 1);
        about("FAULT: the size, if it ends too early, of 100 bytes and of none");
        faultAt("stretch 9 " + "c=0|".repeat(22) + "c=", 100);
        faultAt("stretch 9 " + "c=0|".repeat(22) + "c=0", 100);
        faultAt("", 0);
    }

    private static void clausesAreTen() {
        about("CLAUSES, 10 at most, with ; between");
        String nine = "wind 1;".repeat(9);
        taken("wind 1");
        taken(nine + "wind 1");
        GumBubble x = with(nine + "stretch 5 c=0", 0, 0);
        due(x.of(0, 7), 35);
        due(with(nine + "sweet 7").told(2), 7);
        faultAt(nine + "wind 1;", 69);
        faultAt(nine + "wind 1;wind 1", 69);
        faultAt(nine + "stiff 5 c=0;wind 1", 74);
        faultAt(nine, 63);
        faultAt(";", 0);
        faultAt(";wind 1", 0);
        faultAt("wind 1;;wind 1", 7);
    }

    private static void numbersHaveOneOrTwoDigits() {
        about("n 1 or 2 digits, no 0 ahead of another");
        String[] heads = {"wind ", "sweet ", "stretch ", "stiff ", "stiff 1 c=", "stretch 1 !(s>"};
        String[] tails = {"", "", " c=0", " c=0", "", ")"};
        for (int i = 0; i < heads.length; i++) {
            int at = heads[i].length();
            for (String n : "0 1 9 10 11 90 99".split(" ")) taken(heads[i] + n + tails[i]);
            for (String n : "00 01 09".split(" ")) faultAt(heads[i] + n + tails[i], at + 1);
            for (String n : "100 999 123".split(" ")) faultAt(heads[i] + n + tails[i], at + 2);
            for (String n : "-1 x : /".split(" ")) faultAt(heads[i] + n + tails[i], at);
            faultAt(heads[i] + tails[i], at);
            faultAt(heads[i], at);
        }
    }

    private static void blanksAreOne() {
        about("one blank ahead of each part behind the word");
        taken("stretch 1 c=0");
        faultAt("wind1", 4);
        faultAt("wind  1", 5);
        faultAt("wind 1 ", 6);
        faultAt(" wind 1", 0);
        faultAt("wind 1 ;wind 1", 6);
        faultAt("wind 1; wind 1", 7);
        faultAt("sweet1", 5);
        faultAt("sweet  1", 6);
        faultAt("stretch1 c=0", 7);
        faultAt("stretch  1 c=0", 8);
        faultAt("stretch 1c=0", 9);
        faultAt("stretch 1  c=0", 10);
        faultAt("stretch 1 c =0", 11);
        faultAt("stretch 1 c= 0", 12);
        faultAt("stretch 1 c=0 ", 13);
        faultAt("stretch 1 c=0 |c=0", 13);
        faultAt("stretch 1 c=0| c=0", 14);
        faultAt("stretch 1 c=0& c=0", 14);
        faultAt("stretch 1 ( c=0)", 11);
        faultAt("stretch 1 ! c=0", 11);
        faultAt("stretch 1 (c=0 )", 14);
        faultAt("stiff1 c=0", 5);
        faultAt("stiff 11c=0", 8);
    }

    private static void wordsAndSigns() {
        about("c or k or v or p or s or m, one of < = >");
        String letters = "ckvpsm", signs = "<=>";
        for (int b = 0; b < 128; b++) {
            if (letters.indexOf(b) >= 0) taken("stiff 1 " + (char) b + "=1");
            else if (b != '!' && b != '(') faultAt("stiff 1 " + (char) b + "=1", 8);
            if (signs.indexOf(b) >= 0) taken("stiff 1 c" + (char) b + "1");
            else faultAt("stiff 1 c" + (char) b + "1", 9);
        }
        about("!F, (E), F&T, T|E");
        faultAt("stiff 1 ()", 9);
        faultAt("stiff 1 !)", 9);
        faultAt("stiff 1 !&c=1", 9);
        faultAt("stiff 1 c=1&&c=1", 12);
        faultAt("stiff 1 c=1||c=1", 12);
        faultAt("stiff 1 c=1&|c=1", 12);
        faultAt("stiff 1 c=1)", 11);
        faultAt("stiff 1 c=1(", 11);
        faultAt("stiff 1 c=1!c=1", 11);
        faultAt("stiff 1 c=1c=1", 11);
        faultAt("stiff 1 (c=1))", 13);
        faultAt("stiff 1 (c=1(", 12);
        faultAt("stiff 1 (c=1;wind 1", 12);
        faultAt("stiff 1 &c=1", 8);
        faultAt("stiff 1 |c=1", 8);
        about("wind n; sweet n; stretch n E; stiff n E");
        faultAt("wind 1 c=0", 6);
        faultAt("sweet 1 c=0", 7);
        faultAt("stretch 1", 9);
        faultAt("stretch 1;wind 1", 9);
        faultAt("stiff 1 ", 8);
        faultAt("stiff 1 ;wind 1", 8);
        faultAt("stretch c=0", 8);
    }

    private static void atMostFiveAreOpen() {
        about("At most 5 of ! and ( are open");
        for (int bits = 0; bits < 64; bits++) {
            StringBuilder open = new StringBuilder();
            StringBuilder close = new StringBuilder();
            for (int i = 0; i < 6; i++) {
                boolean isNot = ((bits >> i) & 1) == 1;
                open.append(isNot ? '!' : '(');
                if (!isNot && i < 5) close.append(')');
            }
            taken("stiff 1 " + open.substring(0, 5) + "c=0" + close);
            faultAt("stiff 1 " + open + "c=0" + close + ")", 13);
            faultAt("stiff 1 " + open, 13);
        }
        about("a ( till its )");
        taken("stiff 1 (((((c=0)))))&(((((c=0)))))");
        taken("stiff 1 ((((c=0))|(c=0)|((c=0))))");
        taken("stiff 1 ((((c=0|(c=0)))))");
        faultAt("stiff 1 ((((c=0|((c=0))))))", 17);
        faultAt("stiff 1 (((((c=0)|((c=0", 19);
        faultAt("stiff 1 (((((c=0|(c=0", 17);
        about("a ! till its F ends");
        taken("stiff 1 !!!!!c=0&!!!!!c=0|!!!!!c=0");
        taken("stiff 1 !!!!(c=0&c=0)|!!!!!c=0");
        taken("stiff 1 (!!!!c=0&!!!!c=0|!!!!c=0)");
        taken("stiff 1 !(!(!c=0|!c=0)&!(!c=0))");
        faultAt("stiff 1 (!!!!c=0&!!!!!c=0)", 21);
        faultAt("stiff 1 !!!!(c=0|!c=0)", 17);
        faultAt("stiff 1 !!!!(c=0)&!!!!!!c=0", 23);
        about("At most 5 are open, in each clause anew");
        taken("stiff 1 !!!!!c=0;stiff 1 (((((c=0)))));stretch 1 !!!!!c=0");
    }

    /** ^ stands behind each start that is an afternoon. */
    private static final String MARKED =
            "stretch 10 !(c<1|k=22)^&v>3^;stiff 4 p=6^|s<9^9^;wind 5^;sweet 6^1^;stretch 0 m=9^&(p>1)^";

    private static void faultOfEachStart() {
        about("FAULT: the size, if it ends too early");
        StringBuilder start = new StringBuilder();
        for (int i = 0; i <= MARKED.length(); i++) {
            char c = i < MARKED.length() ? MARKED.charAt(i) : ' ';
            if (c == '^') {
                taken(start.toString());
                i++;
                c = i < MARKED.length() ? MARKED.charAt(i) : ' ';
            } else {
                faultAt(start.toString(), start.length());
            }
            if (i < MARKED.length()) start.append(c);
        }
    }

    private static void faultOfEachByte() {
        about("FAULT: the place of the first byte with which no AN AFTERNOON can go on");
        String text = MARKED.replace("^", "");
        for (int i = 0; i <= text.length(); i++) {
            for (char wrong : new char[] {0, '~', 127}) {
                String rest = i < text.length() ? text.substring(i + 1) : "";
                faultAt(text.substring(0, i) + wrong + rest, i);
                faultAt(text.substring(0, i) + wrong, i);
            }
        }
    }

    private static void afternoonsAreFive() {
        about("AFTERNOONS are numbered from 0 on, 5 at most");
        GumBubble x = new GumBubble();
        for (int n = 0; n < 5; n++) {
            due(x.count(1), n);
            due(read(x, "wind x"), -15);
            due(x.count(1), n);
            due(read(x, "wind " + (n + 1)), n);
        }
        due(x.count(1), 5);
        due(x.told(1), 5);
        about("FULL (ahead of all; THE TAPE stays)");
        due(x.afternoon(), FULL);
        due(read(x, "wind x"), FULL);
        due(x.count(5), 6);
        due(x.afternoon(), FULL);
        due(x.count(5), 6);
        due(x.told(1), 5);
        due(x.feed('w'), 7);
    }

    private static void theNewestHolds() {
        about("the newest one holds; without one there are no CLAUSES");
        GumBubble x = with("", 0, 0);
        due(x.of(0, 7), 30);
        due(x.told(1), 0);
        due(x.told(2), 20);
        due(read(x, "wind 9;sweet 8;stretch 7 c=0"), 0);
        due(x.of(0, 7), 37);
        about("by a FAULT the one that held holds, and THE TAPE is empty");
        due(read(x, "wind 1;sweet 1;stretch 1 c=0;"), -39);
        due(x.count(5), 0);
        due(x.told(1), 9);
        due(x.told(2), 8);
        due(x.of(0, 7), 37);
        about("WIND (0 without), SWEET (20 without)");
        due(read(x, "stretch 6 c=0"), 1);
        due(x.told(1), 0);
        due(x.told(2), 20);
        due(x.of(0, 7), 36);
        due(read(x, "wind 0"), 2);
        due(x.of(0, 7), 30);
        due(x.of(0, 3), 20);
    }

    private static void theLastNumberHolds() {
        about("WIND, SWEET: the last n");
        GumBubble x = on("wind 99;wind 3;sweet 99;sweet 0;wind 0;sweet 1;stretch 9 c=0");
        due(x.told(1), 0);
        due(x.told(2), 1);
        due(on("wind 0;wind 99").told(1), 99);
        due(on("sweet 0;sweet 99").told(2), 99);
    }

    /** Less, as much and more are told apart by what they add. */
    private static String weighed(char letter, int n) {
        return "stretch 1 " + letter + "<" + n + ";stretch 2 " + letter + "=" + n + ";stretch 4 " + letter + ">" + n;
    }

    private static int weight(int value, int n) {
        return 30 + (value < n ? 1 : value == n ? 2 : 4);
    }

    private static void testsAtTheirNumbers() {
        int[] many = {0, 1, 2, 3, 4, 5, 6, 7, 8, 9, 10, 98, 99};
        for (int n : many) {
            about("c its number, k its KIND, against " + n);
            GumBubble x = with(weighed('c', n), 0, 0, 1, 0, 2, 0, 3, 0, 4, 0);
            for (int c = 0; c < 5; c++) due(x.of(c, 7), weight(c, n));
            GumBubble k = with(weighed('k', n), 6, 0, 5, 0, 4, 0, 3, 0, 2, 0);
            for (int c = 0; c < 5; c++) due(k.of(c, 7), weight(6 - c, n));
            GumBubble k2 = with(weighed('k', n), 0, 0, 1, 0);
            for (int c = 0; c < 2; c++) due(k2.of(c, 7), weight(c, n));
            about("v its v, against " + n);
            for (int v = 0; v <= 9; v++) due(with(weighed('v', n), 0, v).of(0, 7), weight(v, n));
            about("p its PIECES, against " + n);
            GumBubble p = with(weighed('p', n), 0, 0);
            for (int pieces = 0; pieces <= 6; pieces++) {
                p.set(0, 0, pieces);
                due(p.of(0, 7), weight(pieces, n));
            }
            about("s SUGAR by 10 (cut), against " + n);
            GumBubble s = with(weighed('s', n), 0, 0);
            for (int sugar : new int[] {0, 1, 9, 10, 11, 19, 20, 29, 30, 99, 100, 979, 980, 989, 990, 999}) {
                s.set(0, 1, sugar);
                due(s.of(0, 7), weight(sugar / 10, n));
            }
            about("m MINUTE modulo 10, against " + n);
            GumBubble m = with(weighed('m', n), 0, 0);
            for (int minute = 0; minute <= 31; minute++) {
                due(m.of(0, 7), weight(minute % 10, n));
                due(m.pass(1), minute + 1);
            }
        }
    }

    private static void whatStandsInTests() {
        about("E: T, or T|E. T: F, or F&T. F: !F, (E), or a TEST");
        // child 1 of two is looked at, so c=1 is so and c=0 is not
        String[] so = {"c=1", "!c=0", "c=1|c=0", "c=0|c=1", "c=1&c=1", "c=1&(c=1)", "c=1|(c=0)", "c=0|(c=1)", "c=1&!(c=0)",
            "c=1&!(c=0&c=1)", "c=0|c=1&(c=0|c=1)", "c=1|c=0&c=0", "c=1|c=1&c=0", "c=0&c=0|c=1", "c=0&(c=0|c=1)|c=1",
            "!c=1|c=1", "!c=1&c=0|c=1", "!(c=1&c=0)", "!!c=1", "!!!!c=1", "!(!c=1)", "(c=0|c=1)&(c=1|c=0)", "c=0|c=0|c=1",
            "c=1|c=0|c=0", "c=0|c=1|c=0", "(((((c=1)))))", "!!!!!c=0", "c=1&c=1&(c=1&(c=1))", "!(!(!c=0&c=1)|c=0)"};
        String[] not = {"c=0", "!c=1", "c=0|c=0", "c=0&c=1", "c=1&c=0", "c=1&(c=0)", "c=0&(c=1)", "c=1&!(c=1)", "(c=0|c=1)&c=0",
            "(c=1|c=0)&c=0", "c=0&(c=1|c=1)", "c=0|(c=1&c=0)", "c=0|c=1&c=0", "c=1&c=0|c=0", "!c=0&c=0", "!c=1|c=0",
            "!(c=1|c=0)", "!!!c=1", "!!!!!c=1", "!(c=0|c=1)|c=0", "c=1&c=1&c=0", "c=1&c=0&c=1", "c=0&c=1&c=1",
            "!(!(!c=1&c=1)&c=1)", "c=0|(c=0|(c=0))", "c=1&(c=1&(c=0))"};
        for (String e : so) due(with("stretch 7 " + e, 0, 0, 0, 0).of(1, 7), 37);
        for (String e : not) due(with("stretch 7 " + e, 0, 0, 0, 0).of(1, 7), 30);
        about("each clause's E by itself");
        GumBubble x = with("stretch 1 c=0;stretch 2 c=1;stiff 4 c=0|c=1;stretch 8 !c=1;stretch 16 c<2&c>0", 0, 0, 0, 0, 0, 0);
        due(x.of(0, 7), 30 + 1 - 4 + 8);
        due(x.of(1, 7), 30 + 2 - 4 + 16);
        due(x.of(2, 7), 30 + 8);
    }

    private static void minutesModuloTen() {
        about("m MINUTE modulo 10, MINUTES beyond 9999, too");
        GumBubble x = with("stretch 7 m=0;stretch 11 m=9", 0, 0);
        for (int minute = 0; minute < 21; minute++) {
            put(x, 0, 1, 0, 0);
            int holds = minute % 10 == 0 ? 37 : minute % 10 == 9 ? 41 : 30;
            due(x.told(3), holds);
            due(x.of(0, 10), holds);
            due(x.on(0, 0), holds);
            due(x.slack(0), holds);
            due(x.pass(1), minute + 1);
        }
        for (int i = 0; i < 165; i++) x.pass(60);
        due(x.pass(60), 9981);
        due(x.pass(18), 9999);
        put(x, 0, 1, 0, 0);
        due(x.of(0, 7), 41);
        due(x.on(0, 10), 41);
        due(x.on(1, 10), 37);
        due(x.on(2, 10), 29);
        due(x.on(10, 10), 41 - 5);
        due(x.on(11, 10), 37 - 5);
    }

    private static void stretchIsOneAtLeast() {
        about("STRETCH: 30, and the n of all stretch, less those of all stiff, together (1 at least)");
        int[][] dues = {{0, 30}, {1, 29}, {28, 2}, {29, 1}, {30, 1}, {31, 1}, {99, 1}};
        for (int[] d : dues) due(with("stiff " + d[0] + " c=0", 0, 0).of(0, 7), d[1]);
        due(with("stretch 0 c=0", 0, 0).of(0, 7), 30);
        due(with("stretch 99 c=0", 0, 0).of(0, 7), 129);
        due(with("stiff 99 c=0;stretch 99 c=0", 0, 0).of(0, 7), 30);
        due(with("stiff 99 c=0;stiff 99 c=0;stretch 99 c=0;stretch 70 c=0", 0, 0).of(0, 7), 1);
        due(with("stiff 99 c=0;stiff 99 c=0;stretch 99 c=0;stretch 71 c=0", 0, 0).of(0, 7), 2);
        due(with("stretch 99 c=0;".repeat(5) + "stretch 99 c=0", 0, 0).of(0, 7), 624);
        due(with("stiff 99 c=1;stiff 99 c>0", 0, 0).of(0, 7), 30);
        GumBubble six = with("stiff 29 c=0", 0, 0);
        put(six, 0, 6, 5, 0);
        due(six.of(0, 10), 1);
        six.set(0, 1, 6);
        due(six.of(0, 10), 0);
    }

    private static final int[][] CHEWS = {
        {3, 3, 4, 4, 5, 5, 6, 6, 7, 7}, {6, 6, 8, 8, 10, 10, 12, 12, 14, 14}, {1, 1, 2, 2, 2, 2, 3, 3, 3, 3},
        {1, 1, 2, 2, 3, 3, 4, 4, 5, 5}, {6, 6, 8, 8, 10, 10, 12, 12, 14, 14}, {2, 2, 3, 3, 3, 3, 4, 4, 4, 4},
        {1, 1, 2, 2, 3, 3, 4, 4, 5, 5}};

    private static void chewsOfEachKind() {
        about("CHEWS of each KIND, v 0 .. 9, PIECES 0 .. 6");
        for (int kind = 0; kind <= 6; kind++) {
            for (int v = 0; v <= 9; v++) {
                GumBubble x = of(kind, v);
                for (int pieces = 0; pieces <= 6; pieces++) {
                    x.set(0, 0, pieces);
                    due(x.of(0, 8), CHEWS[kind][v] + (kind == 4 ? pieces : 0));
                }
                put(x, 0, 1, 500, 0);
                x.pass(1);
                due(x.of(0, 3), 500 - CHEWS[kind][v] - (kind == 4 ? 1 : 0));
            }
        }
        about("TOLD: its ROW (0 .. 9) at MINUTE modulo 4");
        GumBubble t = of(6, 9);
        for (int k = 0; k < 4; k++) t.row(0, k, 9 - 3 * k);
        put(t, 0, 1, 500, 0);
        int sugar = 500;
        for (int minute = 0; minute < 9; minute++) {
            int chews = 5 + 9 - 3 * (minute % 4);
            due(t.of(0, 8), chews);
            due(t.pass(1), minute + 1);
            sugar -= chews;
            due(t.of(0, 3), sugar);
        }
    }

    private static final int[][] TIRES = {
        {0, 1, 2, 3, 4, 5, 6}, {1, 2, 3, 4, 5, 6, 7}, {0, 1, 2, 3, 4, 5, 6}, {0, 2, 4, 6, 8, 10, 12},
        {1, 2, 3, 4, 5, 6, 7}, {0, 0, 1, 1, 2, 2, 3}, {0, 2, 4, 6, 8, 10, 12}};

    private static void tiresOfEachKind() {
        about("TIRES of each KIND, PIECES 0 .. 6");
        for (int kind = 0; kind <= 6; kind++) {
            GumBubble x = of(kind, 3);
            for (int pieces = 0; pieces <= 6; pieces++) {
                put(x, 0, pieces, 0, 40);
                due(x.of(0, 9), TIRES[kind][pieces]);
                x.pass(1);
                due(x.of(0, 4), pieces == 0 ? 35 : 40 + TIRES[kind][pieces]);
            }
        }
    }

    private static void holdsIsNoughtAtLeast() {
        about("HOLDS: PIECES times STRETCH, less SUGAR, 0 at least");
        GumBubble x = of(0, 0);
        int[][] dues = {{1, 0, 0, 30}, {1, 29, 0, 1}, {1, 30, 0, 0}, {1, 31, 0, 0}, {1, 999, 99, 0}, {0, 0, 0, 0},
            {0, 1, 99, 0}, {6, 0, 0, 180}, {6, 179, 0, 1}, {6, 180, 0, 0}, {2, 0, 0, 60}};
        for (int[] d : dues) {
            put(x, 0, d[0], d[1], d[2]);
            due(x.of(0, 10), d[3]);
        }
        about("HOLDS: less the half of JAW (cut)");
        int[][] jaws = {{0, 180}, {1, 180}, {2, 179}, {3, 179}, {98, 131}, {99, 131}};
        for (int[] d : jaws) {
            put(x, 0, 6, 0, d[0]);
            due(x.of(0, 10), d[1]);
        }
        put(x, 0, 1, 20, 19);
        due(x.of(0, 10), 1);
        x.set(0, 2, 20);
        due(x.of(0, 10), 0);
        about("HOLDS: less WIND");
        int[][] winds = {{0, 30}, {1, 29}, {29, 1}, {30, 0}, {31, 0}, {99, 0}};
        for (int[] d : winds) {
            GumBubble y = with("wind " + d[0], 0, 0);
            y.set(0, 1, 0);
            due(y.of(0, 10), d[1]);
            due(y.told(3), d[1]);
        }
    }

    private static void carefulHoldsTenLess() {
        about("HOLDS: CAREFUL: 10 less than that (0 at least)");
        GumBubble x = of(5, 0);
        int[][] dues = {{0, 20}, {18, 2}, {19, 1}, {20, 0}, {21, 0}, {29, 0}, {30, 0}, {31, 0}, {999, 0}};
        for (int[] d : dues) {
            x.set(0, 1, d[0]);
            due(x.of(0, 10), d[1]);
        }
    }

    private static void bubblesShrinkToNought() {
        about("who has a BUBBLE loses v and 1 of its size (0 at least)");
        for (int v = 0; v <= 9; v += 3) {
            for (int size = 1; size <= 2 * v + 3; size++) {
                GumBubble x = of(0, v);
                put(x, 0, 1, 0, 0);
                due(x.blow(0, size), size);
                due(x.told(4), 1);
                x.set(0, 1, 100);
                x.set(0, 2, 50);
                due(x.pass(1), 1);
                due(x.of(0, 5), size <= v + 1 ? 0 : size - v - 1);
                due(x.told(4), size <= v + 1 ? 0 : 1);
                due(x.of(0, 3), 100);
                due(x.of(0, 4), 50);
            }
        }
        about("who has none, and PIECES, chews");
        GumBubble x = of(0, 2);
        put(x, 0, 1, 0, 0);
        due(x.blow(0, 4), 4);
        x.set(0, 1, 10);
        x.pass(2);
        due(x.of(0, 3), 10);
        x.pass(1);
        due(x.of(0, 3), 6);
        due(x.of(0, 4), 1);
    }

    private static void sugarFallsToNought() {
        about("SUGAR is CHEWS less (0 at least)");
        int[][] dues = {{0, 0}, {1, 0}, {2, 0}, {3, 0}, {4, 1}, {999, 996}};
        for (int[] d : dues) {
            GumBubble x = of(0, 0);
            x.set(0, 1, d[0]);
            due(x.on(1, 20), d[1]);
            x.pass(1);
            due(x.of(0, 3), d[1]);
        }
    }

    private static void jawRisesToNinetyNine() {
        about("JAW TIRES more (99 at most)");
        int[][] dues = {{1, 0, 1}, {1, 97, 98}, {1, 98, 99}, {1, 99, 99}, {6, 92, 98}, {6, 93, 99}, {6, 94, 99}, {6, 99, 99}};
        for (int[] d : dues) {
            GumBubble x = of(0, 0);
            put(x, 0, d[0], 0, d[1]);
            x.pass(1);
            due(x.of(0, 4), d[2]);
        }
        GumBubble cold = of(3, 0);
        put(cold, 0, 6, 0, 88);
        cold.pass(1);
        due(cold.of(0, 4), 99);
    }

    private static void jawRestsToNought() {
        about("who has no PIECES rests: JAW is 5 less (0 at least)");
        int[][] dues = {{0, 0}, {1, 0}, {4, 0}, {5, 0}, {6, 1}, {99, 94}};
        for (int[] d : dues) {
            GumBubble x = of(1, 9);
            put(x, 0, 0, 100, d[0]);
            x.pass(1);
            due(x.of(0, 4), d[1]);
            due(x.of(0, 3), 100);
            due(x.of(0, 2), 0);
        }
        about("a BUBBLE and no PIECES, as NOTES.md reads it: one of the three a MINUTE");
        GumBubble x = of(0, 0);
        put(x, 0, 1, 0, 0);
        due(x.blow(0, 2), 2);
        put(x, 0, 0, 100, 50);
        int[][] minutes = {{1, 50}, {0, 50}, {0, 45}};
        for (int[] m : minutes) {
            x.pass(1);
            due(x.of(0, 5), m[0]);
            due(x.of(0, 4), m[1]);
        }
        due(x.of(0, 3), 100);
    }

    private static void breathsBurstAboveHolds() {
        about("A BREATH of n: if that is more than HOLDS, it BURSTS, there is none then");
        for (int holds = 1; holds <= 30; holds += 7) {
            GumBubble x = of(0, 0);
            put(x, 0, 1, 30 - holds, 0);
            due(x.blow(0, holds + 1), -6);
            due(x.of(0, 5), 0);
            due(x.blow(0, holds), holds);
            due(x.of(0, 5), holds);
            due(x.blow(0, 1), -6);
            due(x.of(0, 5), 0);
            due(x.told(4), 0);
        }
        GumBubble none = of(0, 0);
        none.set(0, 1, 30);
        due(none.blow(0, 1), -6);
        about("A BREATH of n (1 .. 99)");
        GumBubble x = of(0, 0);
        put(x, 0, 6, 0, 0);
        due(x.blow(0, 0), BAD);
        due(x.blow(0, 1), 1);
        due(x.blow(0, 100), BAD);
        due(x.blow(0, 99), 100);
        due(x.blow(0, 80), 180);
        about("a BUBBLE that is more than HOLDS already BURSTS by the next BREATH");
        x.set(0, 0, 1);
        due(x.of(0, 5), 180);
        due(x.blow(0, 1), -6);
        due(x.of(0, 6), 18);
    }

    private static void hairIsTheTenth() {
        about("HAIR is the tenth (cut) of how large it was so more");
        int[][] dues = {{1, 0}, {9, 0}, {10, 1}, {11, 1}, {19, 1}, {20, 2}, {89, 8}, {90, 9}, {99, 9}};
        for (int[] d : dues) {
            GumBubble x = of(0, 0);
            x.set(0, 1, 30);
            due(x.blow(0, d[0]), -6);
            due(x.of(0, 6), d[1]);
            due(x.blow(0, d[0]), -6);
            due(x.of(0, 6), 2 * d[1]);
        }
        GumBubble x = of(0, 0);
        put(x, 0, 1, 0, 0);
        due(x.blow(0, 9), 9);
        due(x.blow(0, 30), -6);
        due(x.of(0, 6), 3);
        due(x.blow(0, 9), 9);
        due(x.blow(0, 31), -6);
        due(x.of(0, 6), 7);
    }

    private static void taken(String text) {
        GumBubble x = new GumBubble();
        due(read(x, text), 0);
        due(x.count(1), 1);
        due(x.count(5), 0);
    }

    private static void faultAt(String text, int place) {
        GumBubble x = new GumBubble();
        due(read(x, text), -10 - place);
        due(x.count(1), 0);
        due(x.count(5), 0);
    }
}
