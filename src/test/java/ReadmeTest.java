import java.io.File;
import java.io.IOException;
import java.nio.file.Files;
import java.nio.file.Path;
import java.util.ArrayList;
import java.util.Comparator;
import java.util.List;
import java.util.regex.Matcher;
import java.util.regex.Pattern;
import java.util.stream.Stream;

/** What README.md shows as a use of the class is compiled and run, and gives what README.md says. */
public final class ReadmeTest {
    /** A fenced block; first is the number of its first line. */
    private record Block(String language, int first, List<String> lines) {
        String text() {
            return String.join("\n", lines) + "\n";
        }
    }

    private static final Path HERE = Path.of(".");
    private static final Path PROGRAM = Path.of("src/main/java/GaloisDesk.java");
    private static final Pattern ANSWERED = Pattern.compile(
            "(desk\\.\\w+\\([-\\d, ]*\\)); +// (-?\\d+|NONE|FULL|ZERO|throws IllegalArgumentException)(: .+)?");
    private static final Pattern FILLED = Pattern.compile(".*: slot (\\d) is ([^,]+)(, .+)?");
    private static final String NEW_DESK = "GaloisDesk desk = new GaloisDesk();";

    public static void main(String[] args) throws IOException, InterruptedException {
        List<Block> blocks = blocksOf(Files.readAllLines(Path.of("README.md")));
        Path directory = Files.createTempDirectory("readme");
        try {
            program(blocks, directory);
            calls(blocks, directory);
            everyCallIsShown(blocks);
        } finally {
            remove(directory);
        }
        Check.end();
    }

    /** The one whole program, by the commands that stand behind it, prints the text behind those. */
    private static void program(List<Block> blocks, Path directory) throws IOException, InterruptedException {
        Check.about("README.md", "A first use of it");
        int n = 0;
        while (n < blocks.size() && !isProgram(blocks.get(n))) {
            n++;
        }
        boolean whole = n + 2 < blocks.size() && blocks.get(n + 1).language.equals("sh")
                && blocks.get(n + 2).language.equals("text");
        Check.holds("a program, its commands and what they print stand there", whole);
        if (!whole) {
            return;
        }
        Path copy = directory.resolve(PROGRAM);
        Files.createDirectories(copy.getParent());
        Files.copy(PROGRAM, copy);
        Files.writeString(directory.resolve("Example.java"), blocks.get(n).text());
        StringBuilder printed = new StringBuilder();
        for (String command : blocks.get(n + 1).lines) {
            printed.append(outputOf(directory, command.split(" ")));
        }
        String due = blocks.get(n + 2).text();
        Check.holds("that it prints\n" + due + "and not\n" + printed, printed.toString().equals(due));
    }

    /** The other blocks, each as it stands there, and each with a check of every answer. */
    private static void calls(List<Block> blocks, Path directory) throws IOException, InterruptedException {
        Check.about("README.md", "Behind each call its answer");
        StringBuilder shown = new StringBuilder();
        StringBuilder checked = new StringBuilder();
        for (Block block : blocks) {
            if (block.language.equals("java") && !isProgram(block)) {
                shown.append("static void shown").append(block.first).append("() {\n").append(block.text());
                shown.append("}\n");
                checked.append("{\n").append(checksOf(block)).append("}\n");
            }
        }
        Check.holds("calls are shown", checked.length() > 0);
        Files.writeString(directory.resolve("Calls.java"), "final class Calls {\n" + shown
                + "public static void main(String[] args) {\n" + checked + "Check.end();\n}\n}\n");
        String classes = System.getProperty("java.class.path");
        String source = directory.resolve("Calls.java").toString();
        String out = directory.resolve("calls").toString();
        String printed = outputOf(HERE, "javac", "-cp", classes, "-d", out, source)
                + outputOf(HERE, "java", "-cp", classes + File.pathSeparator + out, "Calls");
        Check.holds("that all answers are right, and not\n" + printed, printed.isEmpty());
    }

    private static String checksOf(Block block) {
        StringBuilder checks = new StringBuilder();
        for (int n = 0; n < block.lines.size(); n++) {
            String line = block.lines.get(n);
            Matcher matcher = ANSWERED.matcher(line);
            String where = "line " + (block.first + n);
            if (line.equals(NEW_DESK)) {
                checks.append(line).append('\n');
            } else if (matcher.matches()) {
                checks.append(checkOf(where, matcher.group(1), matcher.group(2)));
                checks.append(slotCheckOf(where, line));
            } else {
                Check.holds("that " + where + " has a call and its answer", false);
            }
        }
        return checks.toString();
    }

    private static String checkOf(String where, String call, String answer) {
        String what = "\"" + where + ", " + call + "\", ";
        if (answer.startsWith("throws")) {
            return "Check.refused(" + what + "() -> " + call + ");\n";
        }
        String due = Character.isLetter(answer.charAt(0)) ? "GaloisDesk." + answer : answer;
        return "Check.same(" + what + call + ", " + due + ");\n";
    }

    /** Nothing if the line does not say what a slot is. */
    private static String slotCheckOf(String where, String line) {
        Matcher matcher = FILLED.matcher(line);
        if (!matcher.matches()) {
            return "";
        }
        return "Check.slot(\"" + where + "\", desk, " + matcher.group(1) + coefficientsOf(matcher.group(2)) + ");\n";
    }

    /** Of what is written like 2x^2 - x + 3, with a comma before each, of x to the 0 first. */
    private static String coefficientsOf(String polynomial) {
        String[] coefficients = {"0", "0", "0", "0", "0", "0", "0"};
        for (String term : polynomial.replace(" - ", " + -").split(" \\+ ")) {
            int x = term.indexOf('x');
            int power = x < 0 ? 0 : x + 1 == term.length() ? 1 : Integer.parseInt(term.substring(x + 2));
            String number = x < 0 ? term : term.substring(0, x);
            coefficients[power] = number.isEmpty() || number.equals("-") ? number + "1" : number;
        }
        return ", " + String.join(", ", coefficients);
    }

    private static void everyCallIsShown(List<Block> blocks) {
        Check.about("README.md", "The calls");
        StringBuilder all = new StringBuilder();
        for (Block block : blocks) {
            all.append(block.text());
        }
        for (var method : GaloisDesk.class.getMethods()) {
            if (method.getDeclaringClass() == GaloisDesk.class) {
                Check.holds("that a use of " + method.getName() + " is shown",
                        all.indexOf("desk." + method.getName() + "(") >= 0);
            }
        }
    }

    private static boolean isProgram(Block block) {
        return block.language.equals("java") && block.text().contains("public static void main(");
    }

    private static List<Block> blocksOf(List<String> lines) {
        List<Block> blocks = new ArrayList<>();
        Block open = null;
        for (int n = 0; n < lines.size(); n++) {
            String line = lines.get(n);
            if (open == null && line.startsWith("```")) {
                open = new Block(line.substring(3), n + 2, new ArrayList<>());
            } else if (open != null && line.equals("```")) {
                blocks.add(open);
                open = null;
            } else if (open != null) {
                open.lines.add(line);
            }
        }
        return blocks;
    }

    private static String outputOf(Path directory, String... command) throws IOException, InterruptedException {
        Process process = new ProcessBuilder(command).directory(directory.toFile())
                .redirectError(ProcessBuilder.Redirect.INHERIT).start();
        String printed = new String(process.getInputStream().readAllBytes());
        Check.same("the exit code of " + command[0], process.waitFor(), 0);
        return printed;
    }

    private static void remove(Path directory) throws IOException {
        try (Stream<Path> files = Files.walk(directory)) {
            for (Path file : files.sorted(Comparator.reverseOrder()).toList()) {
                Files.delete(file);
            }
        }
    }
}
