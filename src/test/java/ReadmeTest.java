import java.io.IOException;
import java.lang.reflect.Method;
import java.lang.reflect.Modifier;
import java.nio.charset.StandardCharsets;
import java.nio.file.Files;
import java.nio.file.Paths;
import java.util.List;
import java.util.Set;
import java.util.TreeSet;
import java.util.regex.Matcher;
import java.util.regex.Pattern;

/** The examples of README.md, line by line: each answers what stands behind it. It is run from the root. */
public final class ReadmeTest {
    private static final Due DUE = new Due();
    private static final Pattern MADE = Pattern.compile("SpelledTones x = new SpelledTones\\(\\);");
    private static final Pattern TOLD = Pattern.compile("for \\(char c : \"([^\"]*)\"\\.toCharArray\\(\\)\\) x\\.feed\\(c\\);");
    private static final Pattern CALL = Pattern.compile("x\\.(\\w+)\\(([-0-9, ]*)\\); *// (-?\\d+)(: .+)?");

    private static final Set<String> shown = new TreeSet<>();
    private static SpelledTones x;

    public static void main(String[] args) throws IOException, ReflectiveOperationException {
        boolean java = false;
        List<String> lines = Files.readAllLines(Paths.get("README.md"), StandardCharsets.UTF_8);
        for (String line : lines) {
            if (line.startsWith("```")) {
                java = line.equals("```java");
            } else if (java) {
                run(line);
            }
        }
        everyCallStands(String.join("\n", lines));
        refusalsAreShown();
        DUE.end();
    }

    private static void run(String line) throws ReflectiveOperationException {
        DUE.says(line);
        Matcher told = TOLD.matcher(line);
        Matcher call = CALL.matcher(line);
        if (MADE.matcher(line).matches()) {
            x = new SpelledTones();
        } else if (told.matches()) {
            for (char c : told.group(1).toCharArray()) {
                x.feed(c);
            }
        } else if (call.matches()) {
            int due = Integer.parseInt(call.group(3));
            shown.add(call.group(3));
            DUE.is(call.group(1), answer(call.group(1), call.group(2)), due);
        } else {
            DUE.holds("a line that can be tried", false);
        }
    }

    private static int answer(String name, String numbers) throws ReflectiveOperationException {
        String[] parts = numbers.isEmpty() ? new String[0] : numbers.split(", ");
        Class<?>[] types = new Class<?>[parts.length];
        Object[] with = new Object[parts.length];
        for (int i = 0; i < parts.length; i++) {
            types[i] = int.class;
            with[i] = Integer.parseInt(parts[i]);
        }
        Method method = SpelledTones.class.getMethod(name, types);
        return (Integer) method.invoke(x, with);
    }

    private static void everyCallStands(String page) {
        DUE.says("README.md says how the class is used");
        for (Method method : SpelledTones.class.getDeclaredMethods()) {
            if (Modifier.isPublic(method.getModifiers())) {
                DUE.holds(method.getName() + " is named", Pattern.compile("\\b" + method.getName() + "\\(|`"
                    + method.getName() + "`").matcher(page).find());
            }
        }
    }

    private static void refusalsAreShown() {
        DUE.says("what refusals look like");
        int[] all = {Due.NONE, Due.BAD, Due.STATE, Due.NULL, Due.PLACE, Due.KIND, Due.SIZE, Due.STORE};
        for (int refusal : all) {
            DUE.holds(refusal + " is shown", shown.contains(Integer.toString(refusal)));
        }
    }
}
