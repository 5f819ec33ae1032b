import java.io.IOException;
import java.lang.reflect.Method;
import java.nio.charset.StandardCharsets;
import java.nio.file.DirectoryStream;
import java.nio.file.Files;
import java.nio.file.Path;
import java.util.regex.Matcher;
import java.util.regex.Pattern;

/** That README.md tells the truth: its example is run line by line, and its table has every test. Run in the project. */
public final class ReadmeTest {
    private static final Due DUE = new Due();
    private static final Pattern LINE = Pattern.compile("x\\.(\\w+)\\((.*)\\); +// (.*)");
    private static final Pattern CALL = Pattern.compile("x\\.(\\w+)\\((.*)\\)");
    private static final Pattern ANSWER = Pattern.compile("(-?\\d+|true|false)\\b.*");

    public static void main(String[] args) throws IOException, ReflectiveOperationException {
        String readme = Files.readString(Path.of("README.md"), StandardCharsets.ISO_8859_1);
        example(readme);
        table(readme);
        DUE.end("ReadmeTest");
    }

    private static void example(String readme) throws ReflectiveOperationException {
        String block = readme.split("```java\n")[1].split("```")[0];
        WebFinder x = new WebFinder();
        int lines = 0;
        for (String line : block.split("\n")) {
            if (line.isEmpty() || line.equals("WebFinder x = new WebFinder();")) {
                continue;
            }
            Matcher parts = LINE.matcher(line);
            DUE.is("the form of " + line, parts.matches(), true);
            line(x, parts.group(1), parts.group(2), parts.group(3));
            lines++;
        }
        DUE.is("there are lines", lines > 20, true);
    }

    private static void line(WebFinder x, String name, String args, String remark) throws ReflectiveOperationException {
        if (name.equals("feed")) {
            DUE.is("feed(" + args + ")", fed(args), remark);
        }
        Object answer = called(x, name, args);
        if (!name.equals("feed")) {
            Matcher due = ANSWER.matcher(remark);
            DUE.is("what is said of " + name + " begins with its answer", due.matches(), true);
            DUE.is(name + "(" + args + ")", String.valueOf(answer), due.group(1));
        }
    }

    private static Object called(WebFinder x, String name, String args) throws ReflectiveOperationException {
        String[] parts = args.isEmpty() ? new String[0] : args.split(", ");
        Object[] values = new Object[parts.length];
        Class<?>[] types = new Class<?>[parts.length];
        for (int i = 0; i < parts.length; i++) {
            Matcher inside = CALL.matcher(parts[i]);
            values[i] = inside.matches() ? called(x, inside.group(1), inside.group(2)) : Integer.decode(parts[i]);
            types[i] = int.class;
        }
        Method method = WebFinder.class.getMethod(name, types);
        return method.invoke(x, values);
    }

    /** The text of the bytes, as README.md writes it: the zeros behind it are no part of it. */
    private static String fed(String args) {
        StringBuilder text = new StringBuilder();
        for (String arg : args.split(", ")) {
            int word = Integer.decode(arg);
            for (int shift = 24; shift >= 0; shift -= 8) {
                text.append((char) (word >> shift & 255));
            }
        }
        return "\"" + text.toString().replaceAll("\0+$", "").replace("\n", "\\n") + "\"";
    }

    private static void table(String readme) throws IOException {
        try (DirectoryStream<Path> files = Files.newDirectoryStream(Path.of("src/test/java"), "*Test.java")) {
            for (Path file : files) {
                String name = file.getFileName().toString().replace(".java", "");
                DUE.is("README.md has a row for " + name, readme.contains("\n| `" + name + "` | "), true);
            }
        }
    }
}
