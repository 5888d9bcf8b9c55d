import java.io.File;
import java.io.IOException;
import java.lang.reflect.Method;
import java.lang.reflect.Modifier;
import java.nio.file.Files;
import java.nio.file.Path;
import java.util.ArrayList;
import java.util.List;
import java.util.regex.Matcher;
import java.util.regex.Pattern;

/** README.md says how the class is used: its run of calls answers as it says, and it names every call and every test. */
public final class ReadmeTest {
    private static final Due due = new Due("ReadmeTest");
    private static final Pattern CALL = Pattern.compile("x\\.(\\w+\\(.*\\)); +// (-?\\d+|[A-Z]+)\\b.*");

    public static void main(String[] args) throws IOException {
        String text = Files.readString(Path.of("README.md"));
        calls(text);
        names(text);
        due.close();
    }

    private static void calls(String text) {
        int from = text.indexOf("```java\n"), to = text.indexOf("\n```", from + 1);
        due.holds("README has a run of calls", from >= 0 && to > from);
        if (from < 0 || to < from) return;
        List<String> lines = new ArrayList<>();
        for (String line : text.substring(from, to).split("\n")) {
            if (!line.startsWith("x.")) continue;
            Matcher call = CALL.matcher(line);
            due.holds("README tells the answer of " + line, call.matches());
            if (call.matches()) lines.add(call.group(1) + " = " + call.group(2));
        }
        due.holds("README's run has calls", lines.size() > 20);
        Script.run(due, "README", lines);
    }

    private static void names(String text) {
        for (Method m : TwoAlike.class.getDeclaredMethods()) {
            if (!Modifier.isPublic(m.getModifiers())) continue;
            due.holds("README names " + m.getName(), text.contains("`" + m.getName() + "`"));
        }
        String[] files = new File("src/test/java").list();
        due.holds("there are tests", files != null && files.length > 0);
        if (files == null) return;
        for (String file : files) {
            String name = file.replace(".java", "");
            due.holds("README names " + name, text.contains("`" + name + "`"));
        }
    }
}
