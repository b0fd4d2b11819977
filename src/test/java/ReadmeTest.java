import java.lang.reflect.InvocationTargetException;
import java.lang.reflect.Method;
import java.lang.reflect.Modifier;
import java.nio.file.Files;
import java.nio.file.Path;
import java.util.regex.Matcher;
import java.util.regex.Pattern;
import java.util.stream.Stream;

/** README.md: its examples answer what stands behind them, and it names every call and every test. */
public final class ReadmeTest {
    private static final Pattern BLOCK = Pattern.compile("(?s)```java\n(.*?)```");
    private static final Pattern TEXT = Pattern.compile("put\\(x, \"([^\"]*)\"\\);");
    private static final Pattern CALL = Pattern.compile("x\\.(\\w+)\\(([^)]*)\\); +// (-?\\w+)\\b.*");

    private static final Pattern READ_BY = Pattern.compile("\\| (`\\w+`(?:, `\\w+`)*) \\| `([^`]+)` \\|");

    private ReadmeTest() {
    }

    private static Method call(String name) {
        for (Method m : FishFerry.class.getDeclaredMethods()) {
            if (m.getName().equals(name) && Modifier.isPublic(m.getModifiers())) {
                return m;
            }
        }
        throw new IllegalArgumentException("README.md: there is no call " + name);
    }

    private static String answer(FishFerry x, Method call, String numbers) throws Exception {
        String[] parts = numbers.isEmpty() ? new String[0] : numbers.split(", ");
        Object[] given = new Object[parts.length];
        for (int i = 0; i < parts.length; i++) {
            given[i] = Integer.decode(parts[i]);
        }
        try {
            return String.valueOf(call.invoke(x, given));
        } catch (InvocationTargetException e) {
            Check.is("what is thrown", e.getCause().getClass().getSimpleName(), "NoSuchElementException");
            return "throws";
        }
    }

    private static void example(String block) throws Exception {
        FishFerry x = new FishFerry();
        for (String line : block.split("\n")) {
            Matcher text = TEXT.matcher(line);
            Matcher one = CALL.matcher(line);
            if (text.matches()) {
                Check.put(x, text.group(1));
            } else if (one.matches()) {
                Check.is("README.md: " + line, answer(x, call(one.group(1)), one.group(2)), one.group(3));
            } else {
                Check.is("README.md: a line that can be run", line, "FishFerry x = new FishFerry();");
            }
        }
    }

    private static int examples(String page) throws Exception {
        int run = 0;
        Matcher block = BLOCK.matcher(page);
        while (block.find()) {
            if (block.group(1).startsWith("FishFerry x")) {
                example(block.group(1));
                run++;
            }
        }
        return run;
    }

    /** The texts of the table can be read in turn, by each call that stands beside them. */
    private static int texts(String page) throws Exception {
        FishFerry x = new FishFerry();
        int read = 0;
        Matcher line = READ_BY.matcher(page);
        while (line.find()) {
            for (String name : line.group(1).replace("`", "").split(", ")) {
                String answer = answer(Check.put(x, line.group(2)), call(name), "");
                Check.is("README.md: " + line.group(), Integer.parseInt(answer) >= 0, true);
                read++;
            }
        }
        Check.is("README.md: an act of the day is refused", x.row(0), 0);
        return read;
    }

    private static void namesCalls(String page) {
        for (Method m : FishFerry.class.getDeclaredMethods()) {
            if (Modifier.isPublic(m.getModifiers())) {
                Check.is("README.md names " + m.getName(), page.matches("(?s).*`" + m.getName() + "[`(].*"), true);
            }
        }
    }

    private static void namesTests(String page) throws Exception {
        try (Stream<Path> files = Files.list(Path.of("src/test/java"))) {
            files.map(file -> file.getFileName().toString().replace(".java", ""))
                .forEach(name -> Check.is("README.md names " + name, page.contains("`" + name + "`"), true));
        }
    }

    public static void main(String[] args) throws Exception {
        String page = Files.readString(Path.of("README.md"));
        Check.is("examples that were run", examples(page), 2);
        Check.is("texts that were read", texts(page), 7);
        namesCalls(page);
        namesTests(page);
        Check.finish();
    }
}
