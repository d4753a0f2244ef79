import java.io.IOException;
import java.lang.reflect.InvocationTargetException;
import java.lang.reflect.Method;
import java.lang.reflect.Modifier;
import java.nio.file.Files;
import java.nio.file.Path;
import java.util.Arrays;
import java.util.regex.Matcher;
import java.util.regex.Pattern;

/** README.md tells of every call, and of each call in its example the answer is the one that stands behind it. */
public final class ReadmeTest {
    private static final Pattern TYPED = Pattern.compile("for \\(char c : \"([^\"]*)\"\\.toCharArray\\(\\)\\) x\\.type\\(c\\);");
    private static final Pattern CALLED = Pattern.compile("x\\.(\\w+)\\(([^)]*)\\);\\s*// (-?\\d+|[A-Z]+)\\b.*");
    private static int wrong = 0;
    private static int calls = 0;

    private static void is(boolean so, String what) {
        if (!so) {
            wrong++;
            System.out.println("not so: " + what);
        }
    }

    /** The class's own line for a row of the table: each method with its arguments' names, as the document has them. */
    private static String[] face() throws IOException {
        String document = Files.readString(Path.of("../shared/DOC.md"));
        Matcher m = Pattern.compile("public (?:int|long) (\\w+\\([^)]*\\));").matcher(document);
        return m.results().map(found -> found.group(1)).toArray(String[]::new);
    }

    private static void everyCallIsTold(String page) throws IOException {
        String[] face = face();
        is(face.length == 28, "the document has 28 methods: " + face.length);
        for (String call : face) {
            is(page.contains("\n| `" + call + "` | "), "a row for " + call);
        }
        for (java.lang.reflect.Field f : PantryDoors.class.getFields()) {
            is(page.contains("`" + f.getName() + "`"), f.getName() + " is told");
        }
        is(page.contains("`new PantryDoors()`"), "how it is made is told");
    }

    private static long number(String s) throws ReflectiveOperationException {
        return Character.isLetter(s.charAt(0)) ? PantryDoors.class.getField(s).getInt(null) : Long.parseLong(s);
    }

    private static void call(PantryDoors x, String line, Matcher m) throws ReflectiveOperationException {
        Object[] given = m.group(2).isEmpty() ? new Object[0]
            : Arrays.stream(m.group(2).split(", ")).map(Integer::valueOf).toArray();
        for (Method method : PantryDoors.class.getDeclaredMethods()) {
            if (Modifier.isPublic(method.getModifiers()) && method.getName().equals(m.group(1))) {
                long answer = ((Number) method.invoke(x, given)).longValue();
                is(answer == number(m.group(3)), line + " (answered " + answer + ")");
                calls++;
            }
        }
    }

    private static void theExampleIsSo(String page) throws ReflectiveOperationException {
        Matcher block = Pattern.compile("(?s)```java\n(.*?)```").matcher(page);
        while (block.find()) {
            PantryDoors x = new PantryDoors();
            for (String line : block.group(1).split("\n")) {
                Matcher typed = TYPED.matcher(line), called = CALLED.matcher(line);
                if (typed.matches()) {
                    for (char c : typed.group(1).toCharArray()) x.type(c);
                } else if (called.matches()) {
                    call(x, line, called);
                } else {
                    is(line.equals("PantryDoors x = new PantryDoors();"), "a line that can be tried: " + line);
                }
            }
        }
        is(calls >= 20, "the example has calls: " + calls);
    }

    public static void main(String[] args) throws IOException, ReflectiveOperationException {
        String page = Files.readString(Path.of("README.md"));
        everyCallIsTold(page);
        try {
            theExampleIsSo(page);
        } catch (InvocationTargetException e) {
            is(false, "no call throws: " + e.getCause());
        }
        System.out.println(wrong == 0 ? "README.md is as the class: " + calls + " calls" : wrong + " things are not so");
        if (wrong != 0) System.exit(1);
    }
}
