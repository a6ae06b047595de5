import java.nio.file.Files;
import java.nio.file.Path;
import java.util.Set;
import java.util.TreeSet;
import java.util.regex.Matcher;
import java.util.regex.Pattern;

/** Looks at the compiled face and at the source for what LANGUAGE.md rules out, as far as words tell it. */
public final class LanguageTest {
    private static final String[] RULED_OUT = {
        "throw", "throws", "try", "catch", "synchronized", "assert", "import", "package", "yield", "record",
        "protected", "transient", "volatile", "native", "Exact", "Random", "System\\.(?!arraycopy)", "Object", "toString",
        "hashCode", "equals", "getClass", "finally", "static\\s*\\{", "->", "::"
    };
    private static final String FACE = "feed afternoon child of row set told blow pass on when soon pieces breaths slack"
            + " likely dare first beats swap order clean see who firm had mean plan done book looked act trace as image"
            + " undo count";

    public static void main(String[] args) throws Exception {
        int wrong = 0;
        Set<String> due = new TreeSet<>(Set.of(FACE.split(" ")));
        Set<String> found = new TreeSet<>();
        for (java.lang.reflect.Method m : GumBubble.class.getDeclaredMethods()) {
            boolean isPublic = java.lang.reflect.Modifier.isPublic(m.getModifiers());
            if (isPublic) found.add(m.getName());
            if (!isPublic && due.contains(m.getName())) wrong += told("a private method bears a public name: " + m);
            if (!isPublic && !java.lang.reflect.Modifier.isPrivate(m.getModifiers())) wrong += told("visible: " + m);
        }
        if (!found.equals(due)) wrong += told("the face is " + found);
        if (GumBubble.class.getDeclaredClasses().length > 11) wrong += told("too many classes");
        String source = System.getProperty("gum.source");
        if (source != null) wrong += lookAtSource(Files.readString(Path.of(source)));
        if (wrong != 0) System.exit(1);
        System.out.println("LanguageTest: as due" + (source == null ? " (source not looked at)" : ""));
    }

    private static int lookAtSource(String text) {
        int wrong = 0;
        String code = text.replaceAll("/\\*(?s:.*?)\\*/", " ").replaceAll("//[^\n]*", " ").replaceAll("\"[^\"\n]*\"", "S");
        for (String word : RULED_OUT) {
            String edge = Character.isLetter(word.charAt(0)) ? "\\b" : "";
            Matcher m = Pattern.compile(edge + word + (word.matches("\\w+") ? "\\b" : "")).matcher(code);
            if (m.find()) wrong += told("ruled out: " + word);
        }
        for (char c : text.toCharArray()) {
            if (c > 126) wrong += told("a sign above 126: " + (int) c);
        }
        return wrong;
    }

    private static int told(String what) {
        System.out.println("LanguageTest: " + what);
        return 1;
    }
}
