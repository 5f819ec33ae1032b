import java.io.IOException;
import java.nio.charset.StandardCharsets;
import java.nio.file.Files;
import java.nio.file.Path;
import java.util.ArrayList;
import java.util.List;
import java.util.Set;
import java.util.regex.Matcher;
import java.util.regex.Pattern;

/** What can be seen of the rules of LANGUAGE.md in the program's text. Run in the project. */
public final class LanguageTest {
    private static final Due DUE = new Due();
    private static final int MOST_LINES = 60;
    private static final int MOST_PARAMETERS = 7;
    private static final Set<String> STATICS = Set.of("Math.min", "Math.max", "System.arraycopy", "Arrays.copyOf",
        "Arrays.copyOfRange");
    private static final Pattern METHOD = Pattern.compile(
        "( {4}| {8})((?:public |private |static |final )*)(\\w[\\w\\[\\]]* )?(\\w+)\\(([^)]*)\\)(?: throws \\w+)? \\{");
    private static final Pattern STATIC_CALL = Pattern.compile("\\b(Math|System|Arrays|Integer|Long|List|Character|String)"
        + "\\.(\\w+)\\(");

    public static void main(String[] args) throws IOException {
        String file = Files.readString(Path.of("src/main/java/WebFinder.java"), StandardCharsets.ISO_8859_1);
        List<String> lines = code(file);
        beginning(file);
        words(lines);
        library(lines);
        statics(lines);
        methods(lines);
        joins(lines);
        DUE.end("LanguageTest");
    }

    /** Without remarks, and without what stands between quotes. */
    private static List<String> code(String file) {
        List<String> lines = new ArrayList<>();
        for (String line : file.replaceAll("(?s)/\\*.*?\\*/", "").split("\n")) {
            lines.add(line.replaceAll("\"(\\\\.|[^\"\\\\])*\"", "\"\"").replaceAll("'(\\\\.|[^'\\\\])'", "' '")
                .replaceAll("//.*", ""));
        }
        return lines;
    }

    private static void beginning(String file) {
        DUE.of("one file, src/main/java/WebFinder.java, without a package line");
        DUE.is("package", Pattern.compile("(?m)^package ").matcher(file).find(), false);
        Matcher imports = Pattern.compile("(?m)^import (.*);").matcher(file);
        while (imports.find()) {
            DUE.is("import " + imports.group(1), imports.group(1), "java.util.Arrays");
        }
        DUE.of("the file has at most some twelve classes");
        Matcher classes = Pattern.compile("\\b(class|record|enum|interface) \\w+ .*\\{").matcher(file);
        DUE.is("classes", classes.results().count() <= 12, true);
    }

    private static void words(List<String> lines) {
        DUE.of("no lambda, no method reference .. No finally .. No synchronized, assert");
        Pattern none = Pattern.compile("->|::|\\b(try|catch|finally|synchronized|assert|yield|instanceof|var|Object|equals"
            + "|hashCode|toString|getClass|double|float|Thread|Random|currentTimeMillis|nanoTime|getenv|native|volatile"
            + "|transient|protected|abstract|extends|implements)\\b");
        for (String line : lines) {
            DUE.is("a word that is not used: " + line, none.matcher(line).find(), false);
        }
        DUE.of("throw new E() or throw new E(\"a written text\")");
        for (String line : lines) {
            boolean thrown = line.matches(".*\\bthrow\\b.*");
            boolean fine = line.matches(" +throw new (IllegalStateException|IllegalArgumentException)\\(\\);");
            DUE.is("a throw of that form: " + line, !thrown || fine, true);
        }
    }

    private static void library(List<String> lines) {
        DUE.of("The library: only what stands here.");
        for (String line : lines) {
            Matcher calls = STATIC_CALL.matcher(line);
            while (calls.find()) {
                String call = calls.group(1) + "." + calls.group(2);
                DUE.is(call, STATICS.contains(call), true);
            }
        }
    }

    private static void statics(List<String> lines) {
        DUE.of("Static fields are final: constants of int, long, boolean, char or String, .. arrays of int, long, char or "
            + "byte written out in their initialiser and never changed");
        Pattern fine = Pattern.compile(" +(public |private )?static final (int|long|boolean|char|String|int\\[\\]) [A-Z_]+ = .*;");
        for (String line : lines) {
            boolean field = line.matches(" +(\\w+ )*static .*;");
            DUE.is("a static field: " + line, !field || fine.matcher(line).matches(), true);
            DUE.is("no static block: " + line, line.matches(" *static \\{.*"), false);
        }
    }

    private static void methods(List<String> lines) {
        DUE.of("A method takes at most seven parameters. Methods stay short (some sixty lines)");
        int methods = 0;
        for (int i = 0; i < lines.size(); i++) {
            Matcher head = METHOD.matcher(lines.get(i));
            if (!head.matches()) {
                continue;
            }
            methods++;
            int to = i;
            while (!lines.get(to).equals(head.group(1) + "}")) {
                to++;
            }
            DUE.is("the lines of " + head.group(4), to - i + 1 <= MOST_LINES, true);
            DUE.is("the parameters of " + head.group(4), head.group(5).split(",").length <= MOST_PARAMETERS, true);
        }
        DUE.is("methods were seen", methods > 100, true);
    }

    private static void joins(List<String> lines) {
        DUE.of("joining texts by StringBuilder (not by +)");
        for (String line : lines) {
            DUE.is("texts joined: " + line, line.matches(".*(\"\" \\+|\\+ \"\").*"), false);
        }
    }
}
