import java.io.IOException;
import java.lang.reflect.Method;
import java.lang.reflect.Modifier;
import java.nio.file.Files;
import java.nio.file.Path;
import java.util.Set;
import java.util.TreeSet;
import java.util.regex.Matcher;
import java.util.regex.Pattern;

/** What README.md says of the class is so: a reader tries its example first, and looks the calls up in its table. */
public final class ReadmeTest {
    private static final Check CHECK = new Check("ReadmeTest");
    private static final Pattern TEXT = Pattern.compile("\"([^\"]*)\"\\.toCharArray");
    private static final Pattern CALL = Pattern.compile("scope\\.(\\w+)\\(([\\d, -]*)\\);\\s*// (-?\\d+)");
    private static final Pattern LISTED = Pattern.compile("(?m)^\\| `(\\w+)\\(([\\w, ]*)\\)` \\|");

    public static void main(String[] args) throws IOException, ReflectiveOperationException {
        String page = Files.readString(Path.of("README.md"));
        example(page.substring(page.indexOf("```java"), page.indexOf("```", page.indexOf("```java") + 3)));
        calls(page);
        views(page);
        refusals(page);
        tests(page);
        CHECK.end();
    }

    private static void example(String code) throws ReflectiveOperationException {
        Matcher text = TEXT.matcher(code);
        CHECK.holds("the example feeds a text", text.find());
        CoinTelescope scope = new CoinTelescope();
        Check.feed(scope, text.group(1));
        Matcher call = CALL.matcher(code);
        int many = 0;
        while (call.find()) {
            CHECK.due(call.group(1) + "(" + call.group(2) + ")",
                answer(scope, call.group(1), call.group(2)), Long.parseLong(call.group(3)));
            many++;
        }
        // All calls but feed, which the text stands for.
        CHECK.due("calls with their answers", many, code.split("scope\\.").length - 2);
    }

    private static long answer(CoinTelescope scope, String name, String given) throws ReflectiveOperationException {
        String[] parts = given.isBlank() ? new String[0] : given.split(", *");
        Object[] numbers = new Object[parts.length];
        Class<?>[] types = new Class<?>[parts.length];
        for (int i = 0; i < parts.length; i++) {
            numbers[i] = Integer.valueOf(parts[i]);
            types[i] = int.class;
        }
        return ((Number) CoinTelescope.class.getMethod(name, types).invoke(scope, numbers)).longValue();
    }

    private static void calls(String page) {
        Set<String> face = new TreeSet<>();
        for (Method method : CoinTelescope.class.getDeclaredMethods()) {
            if (Modifier.isPublic(method.getModifiers())) {
                face.add(method.getName() + " takes " + method.getParameterCount());
            }
        }
        Set<String> listed = new TreeSet<>();
        Matcher row = LISTED.matcher(page);
        while (row.find()) {
            listed.add(row.group(1) + " takes " + (row.group(2).isEmpty() ? 0 : row.group(2).split(",").length));
        }
        CHECK.holds("the page lists " + listed + ", the class has " + face, listed.equals(face));
    }

    private static void views(String page) {
        for (String clause : new String[] {"coin n", "adds n", "haze n", "dear n E", "dull n E"}) {
            CHECK.holds("the page tells of " + clause, page.contains("`" + clause + "`"));
            String text = clause.replace("n", "7").replace("coi7", "coin").replace("E", "!(p<1|k=2&v>3)|c=4&t<5&l>6");
            CHECK.due(text, Check.view(new CoinTelescope(), text), 0);
        }
    }

    private static void refusals(String page) {
        CoinTelescope x = new CoinTelescope();
        x.thing(1, 0, 0);
        refused(page, "`NONE` (-1)", x.move(1, 0), -1);
        refused(page, "`BAD` (-2)", x.feed(128), -2);
        refused(page, "`STATE` (-3)", x.undo(), -3);
        for (int i = 1; i < 6; i++) {
            x.thing(0, 0, 0);
        }
        refused(page, "`FULL` (-4)", x.thing(0, 0, 0), -4);
        refused(page, "-5", x.looked(), -5);
        refused(page, "-6", x.as(0, 2), -6);
        refused(page, "-10 less a place", Check.view(x, "coin x"), -15);
        refused(page, "-999999", x.then(6, 0, 0), -999999);
        refused(page, "`NO`", x.odds(4, 0, 0), CoinTelescope.NO);
        refused(page, "0", x.act(6, 0, 1), 0);
    }

    private static void refused(String page, String told, long got, long want) {
        CHECK.holds("the page tells of " + told, page.contains("\n| " + told + " |"));
        CHECK.due(told, got, want);
    }

    /** The page tells of each test that .ci/run runs. */
    private static void tests(String page) throws IOException {
        try (var files = Files.list(Path.of("src/test/java"))) {
            for (Path file : files.toList()) {
                String name = file.getFileName().toString().replace(".java", "");
                CHECK.holds("the page tells of " + name, !name.endsWith("Test") || page.contains("| `" + name + "` |"));
            }
        }
    }
}
