import java.lang.reflect.Method;
import java.lang.reflect.Modifier;
import java.nio.file.DirectoryStream;
import java.nio.file.Files;
import java.nio.file.Path;
import java.util.Set;
import java.util.TreeSet;
import java.util.regex.Matcher;
import java.util.regex.Pattern;

/** What README.md says is so: its run of calls answers as it says, and it names every call and every test. */
public final class ReadmeTest {
    private static final Pattern CALL = Pattern.compile("    x\\.(\\w+)\\(([-\\d, ]*)\\); *// (-?\\d+)(:.*)?");
    private static final Pattern FEED = Pattern.compile("    for .*\"(.*)\"\\.toCharArray.*x\\.feed\\(c\\);");
    private static int wrong = 0;

    public static void main(String[] args) throws Exception {
        String root = System.getProperty("gum.root");
        if (root == null) {
            told("-Dgum.root=.. has to tell the project's folder");
            System.exit(1);
        }
        String text = Files.readString(Path.of(root, "README.md"));
        Set<String> called = run(text);
        for (Method m : GumBubble.class.getDeclaredMethods()) {
            if (Modifier.isPublic(m.getModifiers()) && !called.contains(m.getName())) told("not shown: " + m.getName());
        }
        try (DirectoryStream<Path> tests = Files.newDirectoryStream(Path.of(root, "src/test/java"), "*Test.java")) {
            for (Path test : tests) {
                String name = test.getFileName().toString().replace(".java", "");
                if (!text.contains("`" + name + "`")) told("not named: " + name);
            }
        }
        if (wrong != 0) System.exit(1);
        System.out.println("ReadmeTest: " + called.size() + " calls are as README.md says");
    }

    /** Answers the names of the calls; a row of the run that can't be read is wrong, lest it go untested. */
    private static Set<String> run(String text) throws ReflectiveOperationException {
        Set<String> called = new TreeSet<>();
        GumBubble x = new GumBubble();
        for (String line : text.split("\n")) {
            Matcher feed = FEED.matcher(line);
            Matcher call = CALL.matcher(line);
            if (feed.matches()) {
                for (char c : feed.group(1).toCharArray()) x.feed(c);
                called.add("feed");
            } else if (call.matches()) {
                long got = answer(x, call.group(1), call.group(2));
                if (got != Long.parseLong(call.group(3))) told("answered " + got + ":" + line);
                called.add(call.group(1));
            } else if (line.startsWith("    x.") || line.startsWith("    for ")) {
                told("not understood:" + line);
            }
        }
        return called;
    }

    private static long answer(GumBubble x, String name, String told) throws ReflectiveOperationException {
        String[] words = told.isEmpty() ? new String[0] : told.split(", ");
        Class<?>[] types = new Class<?>[words.length];
        Object[] numbers = new Object[words.length];
        for (int i = 0; i < words.length; i++) {
            types[i] = int.class;
            numbers[i] = Integer.parseInt(words[i]);
        }
        return ((Number) GumBubble.class.getMethod(name, types).invoke(x, numbers)).longValue();
    }

    private static void told(String what) {
        wrong++;
        System.out.println("ReadmeTest: " + what);
    }
}
