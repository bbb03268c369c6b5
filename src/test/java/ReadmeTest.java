import java.lang.reflect.Method;
import java.lang.reflect.Modifier;
import java.net.URL;
import java.net.URLClassLoader;
import java.nio.file.Files;
import java.nio.file.Path;
import java.util.ArrayList;
import java.util.List;
import java.util.regex.Matcher;
import java.util.regex.Pattern;
import java.util.stream.Collectors;
import java.util.stream.Stream;
import javax.tools.ToolProvider;

/** Whether README.md is so: each call that it shows is made, and its answer held against the one told there. */
public final class ReadmeTest {
    private static final Path README = Path.of("README.md");
    private static final Pattern ANSWER = Pattern.compile("(-?\\d+|NONE|true|false)(: .*)?");
    private static final Pattern FED = Pattern.compile("\\w+\\.feed\\((.*)\\)");
    private static final Pattern QUOTED = Pattern.compile("\\d+: \"(.*)\"");
    private static final Pattern CALL = Pattern.compile("`(\\w+)`");
    private static final Pattern TEST = Pattern.compile("\\b[A-Z][A-Za-z]*(?:Test|Edges|Cases|Stairs)\\b");
    private static final Pattern FILE = Pattern.compile("(?:src|\\.ci|\\.\\./shared)/[\\w./]*\\w");

    // The helpers that are shown, and the code that makes the shown calls and gathers what they answer.
    private final StringBuilder helpers = new StringBuilder();
    private final StringBuilder code = new StringBuilder();
    private final List<String> calls = new ArrayList<>();
    private final List<Long> due = new ArrayList<>();
    private StringBuilder statement = new StringBuilder();

    public static void main(String[] args) throws Exception {
        List<String> lines = Files.readAllLines(README);
        ReadmeTest shown = new ReadmeTest();
        shown.read(lines);
        shown.compare();
        lookAtTable(lines);
        lookAtFiles(lines);
        Check.end("ReadmeTest");
    }

    private void read(List<String> lines) {
        List<String> block = null;
        for (String line : lines) {
            if (line.equals("```java")) {
                block = new ArrayList<>();
            } else if (line.equals("```") && block != null) {
                readBlock(block);
                block = null;
            } else if (block != null) {
                block.add(line);
            }
        }
        Check.is("all code that is shown ends", block == null);
    }

    private void readBlock(List<String> block) {
        if (block.get(0).startsWith("static ")) {
            helpers.append(String.join("\n", block)).append('\n');
            return;
        }
        for (String line : block) {
            int comment = line.lastIndexOf(" // ");
            String left = comment < 0 ? line : line.substring(0, comment);
            statement.append(left.strip()).append(' ');
            if (left.strip().endsWith(";")) {
                readStatement(statement.toString().strip(), comment < 0 ? "" : line.substring(comment + 4).strip());
                statement = new StringBuilder();
            }
        }
        Check.same("what is left of the code that is shown", statement.length(), 0);
    }

    private void readStatement(String text, String comment) {
        if (text.startsWith("SoManyStairs ")) {
            code.append(text).append('\n');
            return;
        }
        String call = text.substring(0, text.length() - 1);
        Matcher answer = ANSWER.matcher(comment);
        Check.is("the answer is told of " + call, answer.matches());
        if (answer.matches()) {
            calls.add(call);
            due.add(number(answer.group(1)));
            code.append("answers.add(").append(call).append(");\n");
            compareFed(call, comment);
        }
    }

    private static long number(String answer) {
        switch (answer) {
            case "NONE":
                return SoManyStairs.NONE;
            case "true":
                return 1;
            case "false":
                return 0;
            default:
                return Long.parseLong(answer);
        }
    }

    /** The text that is told of a feed() is the one that its numbers hold. */
    private static void compareFed(String call, String comment) {
        Matcher fed = FED.matcher(call);
        Matcher quoted = QUOTED.matcher(comment);
        if (!fed.matches() || !quoted.matches()) {
            return;
        }
        String text = quoted.group(1);
        String[] numbers = fed.group(1).split(", ");
        Check.same("numbers of " + call, numbers.length, 5);
        for (int place = 0; place < 4 * numbers.length; place++) {
            int number = Long.decode(numbers[place / 4]).intValue();
            int letter = place < text.length() ? text.charAt(place) : 0;
            Check.same(call + ": byte " + place, number >>> 24 - place % 4 * 8 & 255, letter);
        }
    }

    private void compare() throws Exception {
        List<?> answers = answers();
        Check.is("calls are shown", !calls.isEmpty());
        Check.same("calls that were made", answers.size(), calls.size());
        for (int i = 0; i < calls.size() && i < answers.size(); i++) {
            Object got = answers.get(i);
            long is = got instanceof Boolean ? (Boolean) got ? 1 : 0 : (Integer) got;
            Check.same("README.md: " + calls.get(i), is, due.get(i));
        }
    }

    private List<?> answers() throws Exception {
        Path place = Files.createTempDirectory("readme");
        try {
            Path file = place.resolve("Shown.java");
            Files.writeString(file, "public final class Shown {\n"
                    + "public static java.util.List<Object> answers() {\n"
                    + "java.util.List<Object> answers = new java.util.ArrayList<>();\n"
                    + code + "return answers;\n}\n" + helpers + "}\n");
            int wrong = ToolProvider.getSystemJavaCompiler().run(null, null, null, "-d", place.toString(),
                    "-cp", System.getProperty("java.class.path"), file.toString());
            Check.same("compiling what README.md shows", wrong, 0);
            if (wrong != 0) {
                return List.of();
            }
            try (URLClassLoader loader = new URLClassLoader(new URL[] {place.toUri().toURL()})) {
                return (List<?>) loader.loadClass("Shown").getMethod("answers").invoke(null);
            }
        } finally {
            try (Stream<Path> files = Files.list(place)) {
                for (Path file : files.collect(Collectors.toList())) {
                    Files.delete(file);
                }
            }
            Files.delete(place);
        }
    }

    /** Each call of the face stands once in the table of all calls, and nothing else does. */
    private static void lookAtTable(List<String> lines) {
        List<String> named = new ArrayList<>();
        for (String line : lines) {
            Matcher call = CALL.matcher(line.startsWith("|") ? line : "");
            while (call.find()) {
                named.add(call.group(1));
            }
        }
        List<String> face = new ArrayList<>();
        for (Method method : SoManyStairs.class.getDeclaredMethods()) {
            if (Modifier.isPublic(method.getModifiers())) {
                face.add(method.getName());
            }
        }
        named.sort(null);
        face.sort(null);
        Check.is("the table names " + named + ", the face is " + face, named.equals(face));
    }

    /** Tests and files that are named are there. */
    private static void lookAtFiles(List<String> lines) {
        String text = String.join("\n", lines);
        Matcher test = TEST.matcher(text);
        while (test.find()) {
            String name = test.group();
            String folder = name.equals("SoManyStairs") ? "src/main/java" : "src/test/java";
            Check.is(name + " is there", Files.exists(Path.of(folder, name + ".java")));
        }
        Matcher file = FILE.matcher(text);
        while (file.find()) {
            Check.is(file.group() + " is there", Files.exists(Path.of(file.group())));
        }
    }
}
