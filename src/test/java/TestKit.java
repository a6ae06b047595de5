/** What the tests told by hand have in common: due answers, and objects made ready. */
abstract class TestKit {
    static final int NONE = GumBubble.NONE, BAD = GumBubble.BAD, STATE = GumBubble.STATE, FULL = GumBubble.FULL;
    static final long NO = GumBubble.NO;
    private static String about = "";
    private static int calls = 0;
    private static int wrong = 0;

    static void about(String sentence) {
        about = sentence;
    }

    static void due(long got, long want) {
        calls++;
        if (got == want) return;
        wrong++;
        StringBuilder lines = new StringBuilder();
        for (StackTraceElement at : new Throwable().getStackTrace()) {
            if (!at.getClassName().equals("TestKit")) lines.append(' ').append(at.getLineNumber());
        }
        System.out.println(about + ", lines" + lines + ": answered " + got + ", due is " + want);
    }

    static void end(String test) {
        if (wrong != 0) System.exit(1);
        System.out.println(test + ": " + calls + " answers are as due");
    }

    static int read(GumBubble x, String text) {
        for (int i = 0; i < text.length(); i++) x.feed(text.charAt(i));
        return x.afternoon();
    }

    static GumBubble on(String text) {
        GumBubble x = new GumBubble();
        if (!text.isEmpty()) due(read(x, text), 0);
        return x;
    }

    /** Children of these kinds and numbers v. */
    static GumBubble of(int... kindsAndVs) {
        return with("", kindsAndVs);
    }

    static GumBubble with(String text, int... kindsAndVs) {
        GumBubble x = on(text);
        for (int i = 0; i + 1 < kindsAndVs.length; i += 2) due(x.child(kindsAndVs[i], kindsAndVs[i + 1]), i / 2);
        return x;
    }

    /** Sets pieces, sugar and jaw. */
    static void put(GumBubble x, int child, int pieces, int sugar, int jaw) {
        x.set(child, 0, pieces);
        x.set(child, 1, sugar);
        x.set(child, 2, jaw);
    }
}
