import java.io.IOException;
import java.nio.charset.StandardCharsets;
import java.nio.file.DirectoryStream;
import java.nio.file.Files;
import java.nio.file.Path;
import java.util.ArrayList;
import java.util.List;
import java.util.Set;
import java.util.TreeSet;
import java.util.regex.Matcher;
import java.util.regex.Pattern;

/** What README.md tells: its program and what it prints, its tables, its commands. */
public final class ReadmeTests {
    private static final Path MAIN = Path.of("src/main/java/TearsPost.java");
    private static final Path TESTS = Path.of("src/test/java");

    private final String readme = Files.readString(Path.of("README.md"));
    private final String document = Files.readString(Path.of("../shared/DOC.md"));
    private final Path work = Files.createTempDirectory("readme");

    private ReadmeTests() throws IOException {
    }

    public static void main(String[] args) throws Exception {
        ReadmeTests tests = new ReadmeTests();
        tests.program();
        tests.oneTestAlone();
        tests.theFace();
        tests.theClauses();
        tests.theFaults();
        tests.theTests();
        tests.commandsNameWhatThereIs();
        tests.clear(tests.work);
        Check.finish("ReadmeTests");
    }

    private String block(String kind, String with) {
        Matcher blocks = Pattern.compile("(?s)```" + kind + "\\n(.*?)```").matcher(readme);
        while (blocks.find()) {
            if (blocks.group(1).contains(with)) {
                return blocks.group(1);
            }
        }
        Check.same("whether there is a block of " + kind + " with " + with, 1, 0);
        return "";
    }

    /** Runs a block of commands, but in a directory of its own in place of those below /tmp; what they print. */
    private String run(Path directory, String commands) throws IOException, InterruptedException {
        Path printed = work.resolve("printed");
        Process process = new ProcessBuilder("sh", "-e", "-c", commands.replace("/tmp", work.toString()))
                .directory(directory.toFile()).redirectErrorStream(true).redirectOutput(printed.toFile()).start();
        Check.same("the exit code of " + commands, 0, process.waitFor());
        return Files.readString(printed);
    }

    private void program() throws IOException, InterruptedException {
        Path top = Files.createDirectories(work.resolve("top"));
        Path main = top.resolve(MAIN);
        Files.createDirectories(main.getParent());
        Files.copy(MAIN, main);
        Files.writeString(top.resolve("Tears.java"), block("java", "class Tears"), StandardCharsets.UTF_8);
        Check.sameText("the program", block("text", "fault"), run(top, block("sh", "Tears.java")));
    }

    private void oneTestAlone() throws IOException, InterruptedException {
        String printed = run(Path.of("").toAbsolutePath(), block("sh", "CityTests"));
        Check.same("whether one test alone ends well", 1, printed.contains(", 0 not") ? 1 : 0);
    }

    /** Each call of the document's face has its row, with its arguments' names and what it throws. */
    private void theFace() {
        List<String> due = new ArrayList<>();
        Matcher lines = Pattern.compile("(?m)^    public (?!static)(.*);$").matcher(document);
        while (lines.find()) {
            String line = lines.group(1).replaceAll("^\\w+ (?=\\w+\\()", "").replaceAll("\\w+ (\\w+)(?=[^()]*\\))", "$1");
            String[] parts = line.split(" throws ");
            due.add(parts[0] + " throws " + (parts.length > 1 ? parts[1] : ""));
        }
        List<String> is = new ArrayList<>();
        for (String[] row : rows("call")) {
            String throwing = row[2].replace("NoSuch", "NoSuchElementException")
                    .replace("Illegal", "IllegalArgumentException");
            is.add(row[0].replace("`", "") + " throws " + throwing);
        }
        Check.same("calls of the face", 29, due.size());
        Check.sameText("the calls", String.join("\n", due), String.join("\n", is));
    }

    /** The clauses of the table are a text, one behind another, and tell what stands beside them. */
    private void theClauses() {
        StringBuilder text = new StringBuilder();
        for (String[] row : rows("clause")) {
            text.append(row[0].replace("`", ""));
        }
        TearsPost post = Check.city(text.toString());
        Check.sameText("what the clauses tell", "3 1 1 1", post.count(0) + " " + post.count(1) + " " + post.count(2)
                + " " + post.count(3));
        Check.sameText("the person", "0 250 1", post.person(0, 0) + " " + post.person(0, 1) + " " + post.person(0, 2));
        Check.sameText("the walk and one left out", "4 4 10", post.walk(0, 1) + " " + post.walk(1, 0) + " "
                + post.walk(0, 2));
    }

    private void theFaults() {
        List<String[]> rows = rows("fault");
        Check.same("kinds of faults", 5, rows.size());
        for (int kind = 1; kind <= rows.size(); kind++) {
            Check.sameText("a fault's kind", String.valueOf(kind), rows.get(kind - 1)[0]);
        }
    }

    private void theTests() throws IOException {
        Set<String> named = new TreeSet<>();
        for (String[] row : rows("test")) {
            named.add(row[0].replace("`", ""));
        }
        Set<String> due = new TreeSet<>();
        try (DirectoryStream<Path> files = Files.newDirectoryStream(TESTS, "*Tests.java")) {
            for (Path file : files) {
                due.add(file.getFileName().toString().replace(".java", ""));
            }
        }
        Check.sameText("the tests", due.toString(), named.toString());
    }

    /** The rows of the table whose first column bears that name. */
    private List<String[]> rows(String column) {
        List<String[]> rows = new ArrayList<>();
        int begin = readme.indexOf("\n| " + column + " | ");
        Check.same("whether there is a table of " + column, 1, begin >= 0 ? 1 : 0);
        String[] lines = readme.substring(Math.max(0, begin)).strip().split("\n");
        for (int i = 2; i < lines.length && lines[i].startsWith("|"); i++) {
            String[] cells = lines[i].substring(1).split("\\|", -1);
            for (int j = 0; j < cells.length; j++) {
                cells[j] = cells[j].strip();
            }
            rows.add(cells);
        }
        return rows;
    }

    private void commandsNameWhatThereIs() {
        Check.same("whether .ci/run can be run", 1, Files.isExecutable(Path.of(".ci/run")) ? 1 : 0);
        Check.same("whether README.md names it", 1, block("sh", ".ci/run").equals("bash .ci/run\n") ? 1 : 0);
        Matcher words = Pattern.compile("src/[\\w/.]+[.]java|\\w+Tests\\b").matcher(readme);
        while (words.find()) {
            String word = words.group();
            Path file = word.startsWith("src") ? Path.of(word) : TESTS.resolve(word + ".java");
            boolean many = word.equals("BoundsTests");
            Check.same("whether there is " + word, 1, many || Files.exists(file) ? 1 : 0);
        }
    }

    private void clear(Path path) throws IOException {
        if (Files.isDirectory(path)) {
            try (DirectoryStream<Path> files = Files.newDirectoryStream(path)) {
                for (Path file : files) {
                    clear(file);
                }
            }
        }
        Files.delete(path);
    }
}
