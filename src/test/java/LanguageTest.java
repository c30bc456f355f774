import java.io.IOException;
import java.lang.reflect.Constructor;
import java.lang.reflect.Field;
import java.lang.reflect.Method;
import java.lang.reflect.Modifier;
import java.nio.file.Files;
import java.nio.file.Path;
import java.util.ArrayList;
import java.util.List;
import java.util.Set;
import java.util.TreeSet;
import java.util.regex.Matcher;
import java.util.regex.Pattern;

/** The document's public face, and those rules of LANGUAGE.md that source and reflection can show. */
public final class LanguageTest {
    private static final Check CHECK = new Check("LanguageTest");
    private static final Path SOURCE = Path.of("src/main/java/CoinTelescope.java");

    private static final String[] FACE = {
        "int feed(int)", "int view()", "int thing(int,int,int)", "int of(int,int)", "int then(int,int,int)",
        "int row(int,int,int)", "int move(int,int)", "int had(int,boolean)", "int point(int)", "int told(int)",
        "int pay()", "int tick(int)", "int pass(int)", "int look(int,int)", "int aim(int,int)", "int soon(int)",
        "int order(int)", "int stood(int,int,int)", "int from(int)", "int firm(int,int)", "long odds(int,int,int)",
        "long mean(int)", "int plan(int)", "int done(int)", "int book(int,int)", "int looked()",
        "int act(int,int,int)", "int trace(int)", "int as(int,int)", "int image()", "int undo()", "int count(int)",
    };

    public static void main(String[] args) throws IOException {
        constants();
        face();
        classesInside();
        String code = withoutComments(Files.readString(SOURCE));
        words(code);
        methods(code);
        CHECK.end();
    }

    private static void constants() {
        CHECK.due("NONE", CoinTelescope.NONE, -1);
        CHECK.due("BAD", CoinTelescope.BAD, -2);
        CHECK.due("STATE", CoinTelescope.STATE, -3);
        CHECK.due("FULL", CoinTelescope.FULL, -4);
        CHECK.due("NO", CoinTelescope.NO, Long.MIN_VALUE);
        Set<String> open = new TreeSet<>();
        for (Field field : CoinTelescope.class.getDeclaredFields()) {
            if (!Modifier.isPrivate(field.getModifiers())) {
                open.add(field.getName());
            }
        }
        CHECK.holds("only the constants are open: " + open, open.equals(Set.of("NONE", "BAD", "STATE", "FULL", "NO")));
    }

    private static void face() {
        Set<String> open = new TreeSet<>();
        Set<String> names = new TreeSet<>();
        Set<String> hidden = new TreeSet<>();
        for (Method method : CoinTelescope.class.getDeclaredMethods()) {
            if (Modifier.isPublic(method.getModifiers())) {
                open.add(signature(method));
                names.add(method.getName());
            } else {
                CHECK.holds(method + " is private", Modifier.isPrivate(method.getModifiers()));
                hidden.add(method.getName());
            }
        }
        CHECK.holds("the face is the document's: " + open, open.equals(new TreeSet<>(List.of(FACE))));
        for (Class<?> inside : CoinTelescope.class.getDeclaredClasses()) {
            for (Method method : inside.getDeclaredMethods()) {
                hidden.add(method.getName());
            }
        }
        hidden.retainAll(names);
        CHECK.holds("no hidden method bears a public one's name: " + hidden, hidden.isEmpty());
        Constructor<?>[] made = CoinTelescope.class.getDeclaredConstructors();
        CHECK.due("constructors", made.length, 1);
        CHECK.holds("a public one without arguments",
            Modifier.isPublic(made[0].getModifiers()) && made[0].getParameterCount() == 0);
        CHECK.holds("final", Modifier.isFinal(CoinTelescope.class.getModifiers()));
    }

    private static String signature(Method method) {
        List<String> takes = new ArrayList<>();
        for (Class<?> type : method.getParameterTypes()) {
            takes.add(type.getName());
        }
        return method.getReturnType().getName() + " " + method.getName() + "(" + String.join(",", takes) + ")";
    }

    private static void classesInside() {
        List<Class<?>> all = new ArrayList<>(List.of(CoinTelescope.class.getDeclaredClasses()));
        all.add(CoinTelescope.class);
        CHECK.holds("twelve classes at most: " + all.size(), all.size() <= 12);
        for (Class<?> one : all) {
            int fields = 0;
            for (Field field : one.getDeclaredFields()) {
                boolean isStatic = Modifier.isStatic(field.getModifiers());
                CHECK.holds(field + ": a static one is final", !isStatic || Modifier.isFinal(field.getModifiers()));
                fields += isStatic ? 0 : 1;
            }
            CHECK.holds(one + " has twenty fields at most: " + fields, fields <= 20);
            CHECK.holds(one + " is static", one == CoinTelescope.class || Modifier.isStatic(one.getModifiers()));
            CHECK.holds(one + " is not public", one == CoinTelescope.class || !Modifier.isPublic(one.getModifiers()));
            for (Method method : one.getDeclaredMethods()) {
                CHECK.holds(method + " takes seven at most", method.getParameterCount() <= 7);
            }
        }
    }

    private static String withoutComments(String source) {
        return source.replaceAll("(?s)/\\*.*?\\*/", "").replaceAll("//[^\n]*", "");
    }

    private static void words(String code) {
        for (String word : new String[] {"throw", "throws", "try", "catch", "synchronized", "assert", "package",
            "protected", "volatile", "transient", "native", "strictfp", "Object", "System.out", "equals", "hashCode",
            "toString", "Exact", "var", "yield", "Override"}) {
            Matcher found = Pattern.compile("(?<![A-Za-z])" + Pattern.quote(word) + "(?![A-Za-z])").matcher(code);
            CHECK.holds("no " + word, !found.find());
        }
        CHECK.holds("no lambda", !code.contains("->"));
        CHECK.holds("no method reference", !code.contains("::"));
        Matcher imports = Pattern.compile("import ([^;]*);").matcher(code);
        while (imports.find()) {
            CHECK.holds("import " + imports.group(1), imports.group(1).equals("java.util.Arrays"));
        }
        Matcher library = Pattern.compile("\\b(Arrays|System|Math|Integer|Long)\\.(\\w+)").matcher(code);
        while (library.find()) {
            CHECK.holds(library.group(), Set.of("Arrays.fill", "System.arraycopy", "Math.max", "Math.min", "Math.abs",
                "Long.MIN_VALUE").contains(library.group()));
        }
    }

    /** Methods are some sixty lines at most, and no line is wider than 120 signs. */
    private static void methods(String code) {
        int start = -1;
        String[] lines = code.split("\n");
        for (int i = 0; i < lines.length; i++) {
            CHECK.holds("line " + (i + 1) + " is not too wide", lines[i].length() <= 120);
            if (lines[i].matches(" {4,8}[\\w\\[\\]. ]+\\(.*\\{")) {
                start = i;
            }
            if (start >= 0 && lines[i].matches(" {4,8}\\}")) {
                CHECK.holds(lines[start].trim() + " is short: " + (i - start), i - start <= 60);
                start = -1;
            }
        }
    }
}
