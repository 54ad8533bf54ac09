import java.io.IOException;
import java.lang.reflect.InvocationTargetException;
import java.lang.reflect.Method;
import java.lang.reflect.Modifier;
import java.nio.file.Files;
import java.nio.file.Path;
import java.util.ArrayList;
import java.util.List;
import java.util.regex.Matcher;
import java.util.regex.Pattern;

/** README.md says how the class is used: its example answers as it says, and its tables have the whole face. */
public final class ReadmeTest {
    private static final Pattern FED = Pattern.compile("feed\\(x, \"(.*)\"\\);");
    private static final Pattern CALLED = Pattern.compile("x\\.(\\w+)\\(([^)]*)\\); +// (-?\\w+).*");

    public static void main(String[] args) throws IOException {
        String text = Files.readString(Path.of("README.md"));
        example(text.substring(text.indexOf("### An example"), text.indexOf("### The public face")));
        tables(text.substring(text.indexOf("### The public face"), text.indexOf("## How to run")));
        tests(text.substring(text.indexOf("## How to run")));
        Check.end("ReadmeTest");
    }

    private static void example(String part) {
        HeldMusic x = new HeldMusic();
        int calls = 0;
        for (String line : part.split("\n")) {
            Matcher fed = FED.matcher(line);
            Matcher called = CALLED.matcher(line);
            if (fed.matches()) {
                Check.feed(x, fed.group(1));
            } else if (called.matches()) {
                String got = answer(x, called.group(1), called.group(2));
                Check.due(line + " answered " + got, got.equals(called.group(3)), true);
                calls++;
            } else {
                Check.due("no call that is not made: " + line, line.startsWith("x."), false);
            }
        }
        Check.due("calls of the example", calls > 20, true);
    }

    private static String answer(HeldMusic x, String name, String given) {
        List<Object> values = new ArrayList<>();
        for (String one : given.isEmpty() ? new String[0] : given.split(", ")) {
            values.add(one.equals("true") || one.equals("false") ? Boolean.valueOf(one) : Integer.valueOf(one));
        }
        for (Method m : HeldMusic.class.getDeclaredMethods()) {
            if (m.getName().equals(name) && Modifier.isPublic(m.getModifiers())) {
                try {
                    return String.valueOf(m.invoke(x, values.toArray()));
                } catch (IllegalAccessException | InvocationTargetException e) {
                    return e.toString();
                }
            }
        }
        return "no such call";
    }

    private static void tables(String part) {
        for (Method m : HeldMusic.class.getDeclaredMethods()) {
            if (Modifier.isPublic(m.getModifiers())) {
                Matcher told = Pattern.compile("`" + m.getName() + "\\(([^)]*)\\)`").matcher(part);
                boolean found = told.find();
                Check.due(m.getName() + " is told", found, true);
                String given = found ? told.group(1) : "";
                Check.due("arguments of " + m.getName(), given.isEmpty() ? 0 : given.split(", ").length,
                    m.getParameterCount());
                Check.due(m.getName() + " is told once", found && told.find(), false);
            }
        }
    }

    private static void tests(String part) throws IOException {
        try (var files = Files.list(Path.of("src/test/java"))) {
            files.map(f -> f.getFileName().toString()).filter(f -> f.endsWith("Test.java")).forEach(f ->
                Check.due(f + " is told", part.contains("`" + f.substring(0, f.length() - 5) + "`"), true));
        }
    }
}
