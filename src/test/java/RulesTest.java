import java.io.IOException;
import java.lang.reflect.Constructor;
import java.lang.reflect.Field;
import java.lang.reflect.Method;
import java.lang.reflect.Modifier;
import java.nio.file.Files;
import java.nio.file.Paths;
import java.util.Arrays;
import java.util.Set;
import java.util.TreeSet;
import java.util.regex.Matcher;
import java.util.regex.Pattern;

/** What of LANGUAGE.md can be seen from the text of the class and from its members. It is run from the root. */
public final class RulesTest {
    private static final String FACE = "row/3 set/3 copy/5 drop/1 feed/1 piece/0 fault/0 key/2 become/2 sign/1 shift/1"
        + " undo/0 place/2 inWindow/2 head/1 note/2 chord/2 whole/1 price/2 cost/2 fits/4 drawn/3 image/1 restore/1"
        + " kind/1 as/2 ask/2 trace/1 count/1 status/0";
    private static int wrong = 0;

    public static void main(String[] args) throws IOException {
        face();
        members(SpelledTones.class);
        Class<?>[] inside = SpelledTones.class.getDeclaredClasses();
        rule(11, "some twelve classes", inside.length <= 11);
        for (Class<?> c : inside) {
            rule(1, c + " is static", Modifier.isStatic(c.getModifiers()));
            rule(1, c + " is private or package-visible", !Modifier.isPublic(c.getModifiers()));
            members(c);
        }
        text(new String(Files.readAllBytes(Paths.get("src/main/java/SpelledTones.java")), "ISO-8859-1"));
        System.out.println(wrong == 0 ? "the rules are kept" : wrong + " rules are broken");
        if (wrong != 0) {
            System.exit(1);
        }
    }

    private static void rule(int number, String what, boolean kept) {
        if (!kept) {
            wrong++;
            System.out.println("rule " + number + " is broken: " + what);
        }
    }

    private static void face() {
        Set<String> seen = new TreeSet<>();
        Class<?> c = SpelledTones.class;
        rule(1, "public and final", Modifier.isPublic(c.getModifiers()) && Modifier.isFinal(c.getModifiers()));
        for (Method m : c.getDeclaredMethods()) {
            if (!Modifier.isPrivate(m.getModifiers())) {
                rule(1, m + " answers an int", m.getReturnType() == int.class);
                seen.add(m.getName() + "/" + m.getParameterCount());
            }
        }
        rule(1, "the methods are " + seen, seen.equals(new TreeSet<>(Arrays.asList(FACE.split(" ")))));
        Set<String> fields = new TreeSet<>();
        for (Field f : c.getDeclaredFields()) {
            if (!Modifier.isPrivate(f.getModifiers())) {
                fields.add(f.getName());
            }
        }
        rule(1, "the constants are " + fields, fields.equals(new TreeSet<>(Arrays.asList("NONE", "BAD", "STATE", "FULL"))));
        Constructor<?>[] constructors = c.getDeclaredConstructors();
        rule(1, "one constructor", constructors.length == 1 && constructors[0].getParameterCount() == 0);
    }

    private static void members(Class<?> c) {
        int fields = 0;
        for (Field f : c.getDeclaredFields()) {
            boolean fixed = Modifier.isStatic(f.getModifiers());
            fields += fixed ? 0 : 1;
            rule(5, f + " is final", !fixed || Modifier.isFinal(f.getModifiers()));
        }
        rule(11, c + " has some twenty fields", fields <= 20);
        for (Method m : c.getDeclaredMethods()) {
            rule(11, m + " has at most seven parameters", m.getParameterCount() <= 7);
            boolean named = (" " + FACE).contains(" " + m.getName() + "/");
            rule(1, m + " bears the name of a public one", c == SpelledTones.class && !Modifier.isPrivate(m.getModifiers())
                || !named);
        }
    }

    private static void text(String text) {
        String bare = text.replaceAll("(?s)/\\*.*?\\*/", " ").replaceAll("//[^\n]*", " ");
        Matcher words = Pattern.compile("\\b(throw|throws|try|catch|finally|synchronized|assert|goto|native|package|var"
            + "|volatile|transient|Object|Thread|Runtime|hashCode|toString|getClass|Random|nanoTime|currentTimeMillis"
            + "|\\w+Exact)\\b|->|::").matcher(bare);
        while (words.find()) {
            rule(6, words.group(), false);
        }
        Matcher library = Pattern.compile("\\b(Math|System|Integer|Long|Arrays|List)\\.(\\w+)").matcher(bare);
        Set<String> known = new TreeSet<>(Arrays.asList("Math.floorMod", "Math.floorDiv", "Math.abs", "Math.min", "Math.max",
            "System.arraycopy"));
        while (library.find()) {
            rule(4, library.group(), known.contains(library.group()));
        }
        for (char c : text.toCharArray()) {
            rule(3, "a sign beyond 126: " + (int) c, c < 127);
        }
        lengths(bare);
    }

    /** Methods are told apart by how far their lines stand in: 4 in the class itself, 8 in the classes inside. */
    private static void lengths(String bare) {
        Matcher methods = Pattern.compile("(?m)^( {8}| {4})(?! )[\\w \\[\\]]+\\([^;{]*\\) \\{\n((?s).*?)^\\1\\}").matcher(bare);
        int count = 0;
        while (methods.find()) {
            count++;
            rule(11, "a long method: " + methods.group().trim().split("\n")[0], methods.group(2).split("\n").length <= 60);
        }
        rule(11, "methods are found", count > 60);
    }
}
