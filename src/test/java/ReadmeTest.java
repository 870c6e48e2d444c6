import java.io.IOException;
import java.nio.file.Files;
import java.nio.file.Path;
import java.util.ArrayList;
import java.util.Comparator;
import java.util.List;
import java.util.regex.Matcher;
import java.util.regex.Pattern;
import java.util.stream.Stream;

/** README.md: its calls answer what stands behind them, its commands work, and it names every test. Run from the project's root. */
public final class ReadmeTest {
    private static final Pattern CALL = Pattern.compile("(?:int (\\w+) = )?(x\\.\\w+\\(.*\\));\\s+// (-?\\d+|[A-Z]+)(?:: .*)?");
    private static final String NEW = "ThreeHundred x = new ThreeHundred();";
    private static final String PLACE = "/tmp/three-hundred";
    private static int wrong = 0;

    public static void main(String[] args) throws Exception {
        List<String> calls = new ArrayList<>(), commands = new ArrayList<>();
        read(Files.readAllLines(Path.of("README.md")), calls, commands);
        must(calls.size() > 20, "the program is too short: " + calls.size() + " lines");
        must(commands.size() > 3, "too few commands: " + commands);
        must(calls.size() <= 513, "more calls than an object is good for");
        Path place = Files.createTempDirectory("readme");
        try {
            copy(Path.of("src"), place.resolve("src"));
            Files.write(place.resolve("Mine.java"), program(calls));
            for (String command : commands) {
                perform(command, place);
            }
        } finally {
            remove(place);
        }
        namesAllTests(Files.readString(Path.of("README.md")));
        System.out.println(wrong == 0 ? "README.md shows " + calls.size() + " calls and " + commands.size() + " commands: all work as they stand"
            : wrong + " things in README.md do not hold");
        if (wrong != 0) {
            System.exit(1);
        }
    }

    private static void must(boolean holds, String what) {
        if (!holds) {
            wrong++;
            System.out.println(what);
        }
    }

    /** The lines between the fences of java, and the lines that stand four blanks in. */
    private static void read(List<String> lines, List<String> calls, List<String> commands) {
        boolean inside = false;
        for (String line : lines) {
            if (line.startsWith("```")) {
                must(inside ? line.equals("```") : line.equals("```java"), "a fence of another kind: " + line);
                inside = !inside;
            } else if (inside) {
                calls.add(line);
            } else if (line.startsWith("    ")) {
                commands.add(line.trim());
            }
        }
    }

    private static List<String> program(List<String> calls) {
        List<String> text = new ArrayList<>(List.of("public final class Mine {", "static int wrong = 0;",
            "static void due(String call, long got, long want) {",
            "if (got != want) { wrong++; System.out.println(call + \" answered \" + got + \", README.md says \" + want); } }",
            "public static void main(String[] args) {"));
        must(calls.get(0).equals(NEW), "the program does not begin with a new object");
        text.add(NEW);
        for (String line : calls.subList(1, calls.size())) {
            Matcher parts = CALL.matcher(line);
            if (!parts.matches()) {
                must(false, "a line without a call and what it answers: " + line);
                continue;
            }
            String name = parts.group(1), call = parts.group(2), answer = parts.group(3);
            String due = Character.isUpperCase(answer.charAt(0)) ? "ThreeHundred." + answer : answer + "L";
            String told = call.replace("\\", "\\\\").replace("\"", "\\\"");
            text.add(name == null ? "due(\"" + told + "\", " + call + ", " + due + ");"
                : "int " + name + " = " + call + "; due(\"" + told + "\", " + name + ", " + due + ");");
        }
        text.add("if (wrong != 0) System.exit(1); } }");
        return text;
    }

    // What is compiled goes to a place of this test alone, so that two may run at once.
    private static void perform(String command, Path place) throws Exception {
        if (command.equals(".ci/run")) {
            must(Files.isExecutable(Path.of(command)), ".ci/run can't be run");
            return;
        }
        ProcessBuilder builder = new ProcessBuilder("sh", "-c", command.replace(PLACE, place.resolve("out").toString()));
        int end = builder.directory(place.toFile()).redirectErrorStream(true).inheritIO().start().waitFor();
        must(end == 0, "a command ends with " + end + ": " + command);
    }

    private static void copy(Path from, Path to) throws IOException {
        try (Stream<Path> all = Files.walk(from)) {
            for (Path one : (Iterable<Path>) all::iterator) {
                Files.createDirectories(to);
                if (Files.isRegularFile(one)) {
                    Path copied = to.resolve(from.relativize(one));
                    Files.createDirectories(copied.getParent());
                    Files.copy(one, copied);
                }
            }
        }
    }

    private static void remove(Path place) throws IOException {
        try (Stream<Path> all = Files.walk(place)) {
            for (Path one : (Iterable<Path>) all.sorted(Comparator.reverseOrder())::iterator) {
                Files.delete(one);
            }
        }
    }

    private static void namesAllTests(String text) throws IOException {
        List<String> told = new ArrayList<>(), there = new ArrayList<>();
        Matcher names = Pattern.compile("(?m)^- `(\\w+Test)`|, `(\\w+Test)` \\(").matcher(text);
        while (names.find()) {
            told.add(names.group(1) != null ? names.group(1) : names.group(2));
        }
        try (Stream<Path> all = Files.list(Path.of("src/test/java"))) {
            for (Path one : (Iterable<Path>) all::iterator) {
                if (one.toString().endsWith("Test.java")) {
                    there.add(one.getFileName().toString().replace(".java", ""));
                }
            }
        }
        told.sort(null);
        there.sort(null);
        must(told.equals(there), "README.md names the tests " + told + ", there are " + there);
    }
}
