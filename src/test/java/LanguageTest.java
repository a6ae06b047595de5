import java.lang.reflect.Modifier;
import java.nio.file.Files;
import java.nio.file.Path;
import java.util.ArrayList;
import java.util.List;
import java.util.Set;
import java.util.TreeSet;
import java.util.regex.Matcher;
import java.util.regex.Pattern;

/** Looks at the compiled face and at the source for what LANGUAGE.md rules out, as far as words tell it. */
public final class LanguageTest {
    private static final String[] RULED_OUT = {
        "throw", "throws", "try", "catch", "synchronized", "assert", "import", "package", "yield", "record",
        "protected", "transient", "volatile", "native", "Exact", "Random", "System\\.(?!arraycopy)", "Object", "toString",
        "hashCode", "equals", "getClass", "finally", "static\\s*\\{", "->", "::"
    };
    private static final String FACE = "feed afternoon child of row set told blow pass on when soon pieces breaths slack"
            + " likely dare first beats swap order clean see who firm had mean plan done book looked act trace as image"
            + " undo count";

    public static void main(String[] args) throws Exception {
        int wrong = 0;
        Set<String> due = new TreeSet<>(Set.of(FACE.split(" ")));
        Set<String> found = new TreeSet<>();
        for (java.lang.reflect.Method m : GumBubble.class.getDeclaredMethods()) {
            boolean isPublic = Modifier.isPublic(m.getModifiers());
            if (isPublic) found.add(m.getName());
            if (!isPublic && due.contains(m.getName())) wrong += told("a private method bears a public name: " + m);
            if (!isPublic && !Modifier.isPrivate(m.getModifiers())) wrong += told("visible: " + m);
        }
        if (!found.equals(due)) wrong += told("the face is " + found);
        wrong += lookAtFields();
        wrong += lookAtClasses();
        String source = System.getProperty("gum.source");
        if (source != null) wrong += lookAtSource(Files.readString(Path.of(source)));
        if (wrong != 0) System.exit(1);
        System.out.println("LanguageTest: as due" + (source == null ? " (source not looked at)" : ""));
    }

    private static int lookAtFields() {
        int wrong = 0;
        Set<String> found = new TreeSet<>();
        for (java.lang.reflect.Field f : GumBubble.class.getDeclaredFields()) {
            if (Modifier.isPublic(f.getModifiers())) found.add(f.getName());
            else if (!Modifier.isPrivate(f.getModifiers())) wrong += told("visible: " + f);
        }
        if (!found.equals(Set.of("NONE", "BAD", "STATE", "FULL", "NO"))) wrong += told("the constants are " + found);
        if (GumBubble.class.getConstructors().length != 1 || GumBubble.class.getDeclaredConstructors().length != 1) {
            wrong += told("not one constructor alone");
        }
        return wrong;
    }

    /** Rules 1, 2, 5 and 11: static inside, nothing static that changes, few fields, parameters and classes. */
    private static int lookAtClasses() {
        int wrong = 0;
        List<Class<?>> all = new ArrayList<>(List.of(GumBubble.class.getDeclaredClasses()));
        for (Class<?> c : all) {
            if (!Modifier.isStatic(c.getModifiers()) || Modifier.isPublic(c.getModifiers())) wrong += told("inside: " + c);
        }
        all.add(GumBubble.class);
        if (all.size() > 12) wrong += told("too many classes");
        for (Class<?> c : all) {
            int fields = 0;
            for (java.lang.reflect.Field f : c.getDeclaredFields()) {
                boolean isStatic = Modifier.isStatic(f.getModifiers());
                if (isStatic && !Modifier.isFinal(f.getModifiers())) wrong += told("static, not final: " + f);
                if (!isStatic) fields++;
            }
            if (fields > 20) wrong += told("too many fields: " + c);
            for (java.lang.reflect.Method m : c.getDeclaredMethods()) {
                if (m.getParameterCount() > 7) wrong += told("too many parameters: " + m);
            }
        }
        return wrong;
    }

    /** Rule 11: how many lines the longest method of the text has, told by its indent. */
    private static int longest(String text) {
        int most = 0;
        for (String indent : new String[] {"    ", "        "}) {
            Matcher m = Pattern.compile("(?m)^" + indent + "\\w[^;\n]*\\) \\{\n(?:(?:" + indent + " [^\n]*)?\n)*?" + indent + "\\}")
                    .matcher(text);
            while (m.find()) most = Math.max(most, m.group().split("\n").length);
        }
        return most;
    }

    private static int lookAtSource(String text) {
        int wrong = 0;
        if (longest(text) > 60) wrong += told("a method has " + longest(text) + " lines");
        String code = text.replaceAll("/\\*(?s:.*?)\\*/", " ").replaceAll("//[^\n]*", " ").replaceAll("\"[^\"\n]*\"", "S");
        for (String word : RULED_OUT) {
            String edge = Character.isLetter(word.charAt(0)) ? "\\b" : "";
            Matcher m = Pattern.compile(edge + word + (word.matches("\\w+") ? "\\b" : "")).matcher(code);
            if (m.find()) wrong += told("ruled out: " + word);
        }
        for (char c : text.toCharArray()) {
            if (c > 126) wrong += told("a sign above 126: " + (int) c);
        }
        return wrong;
    }

    private static int told(String what) {
        System.out.println("LanguageTest: " + what);
        return 1;
    }
}
