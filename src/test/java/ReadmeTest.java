import java.io.File;
import java.io.IOException;
import java.lang.reflect.Method;
import java.lang.reflect.Modifier;
import java.nio.file.Files;
import java.nio.file.Path;
import java.util.ArrayList;
import java.util.List;
import java.util.regex.Matcher;
import java.util.regex.Pattern;

/** README.md: its programs compile and print what it says, and its tables have each call of the face. */
public final class ReadmeTest {
    private static final Check CHECK = new Check();
    private static final Pattern PROGRAM_NAME = Pattern.compile("public final class (\\w+)");
    private static final Pattern ROW_OF_A_CALL = Pattern.compile("\\| `(\\w+ \\w+\\([^)]*\\))` \\|.*");
    private static final Pattern PARAMETER_NAME = Pattern.compile(" \\w+(?=[,)])");
    private static final Pattern ROW_OF_A_TEST = Pattern.compile("\\| `(\\w+Test)` \\|.*");

    public static void main(String[] args) throws IOException, InterruptedException {
        List<String> readme = Files.readAllLines(Path.of("README.md"));
        programsPrintWhatIsSaid(readme);
        same("calls of the tables", namedBy(ROW_OF_A_CALL, readme), callsOfTheFace());
        same("tests of the tables", namedBy(ROW_OF_A_TEST, readme), testsOfTheProject());
        CHECK.end();
    }

    private static void programsPrintWhatIsSaid(List<String> readme)
            throws IOException, InterruptedException {
        List<String> programs = pieces("java", readme);
        List<String> prints = pieces("text", readme);
        CHECK.due("README.md has a program", programs.isEmpty(), false);
        CHECK.due("texts that programs print", prints.size(), programs.size());
        for (int p = 0; p < programs.size() && p < prints.size(); p++) {
            same("what program " + p + " prints", linesOf(printed(programs.get(p))),
                    linesOf(prints.get(p)));
        }
    }

    /** The pieces of a language, each as it stands between its fences. */
    private static List<String> pieces(String language, List<String> readme) {
        List<String> found = new ArrayList<>();
        StringBuilder piece = null;
        for (String line : readme) {
            if (piece == null && line.equals("```" + language)) {
                piece = new StringBuilder();
            } else if (piece != null && line.equals("```")) {
                found.add(piece.toString());
                piece = null;
            } else if (piece != null) {
                piece.append(line).append('\n');
            }
        }
        return found;
    }

    private static String printed(String program) throws IOException, InterruptedException {
        Matcher name = PROGRAM_NAME.matcher(program);
        if (!name.find()) {
            return "a program without a public final class";
        }
        Path directory = Files.createTempDirectory("readme");
        Path file = directory.resolve(name.group(1) + ".java");
        try {
            Files.writeString(file, program);
            return printedByJava(file);
        } finally {
            Files.deleteIfExists(file);
            Files.delete(directory);
        }
    }

    /** java compiles a single file by itself; what it prints of faults comes among the lines. */
    private static String printedByJava(Path file) throws IOException, InterruptedException {
        String java = System.getProperty("java.home") + File.separator + "bin" + File.separator + "java";
        Process process = new ProcessBuilder(java, "-cp", System.getProperty("java.class.path"),
                "--source", "17", file.toString()).redirectErrorStream(true).start();
        String text = new String(process.getInputStream().readAllBytes());
        CHECK.due("exit code of " + file.getFileName(), process.waitFor(), 0);
        return text;
    }

    private static List<String> linesOf(String text) {
        return text.lines().toList();
    }

    /** What the first column of a table's rows names, without the names of parameters. */
    private static List<String> namedBy(Pattern row, List<String> readme) {
        List<String> named = new ArrayList<>();
        for (String line : readme) {
            Matcher matcher = row.matcher(line);
            if (matcher.matches()) {
                named.add(PARAMETER_NAME.matcher(matcher.group(1)).replaceAll(""));
            }
        }
        return sorted(named);
    }

    private static List<String> callsOfTheFace() {
        List<String> calls = new ArrayList<>();
        for (Method method : BaleTenders.class.getDeclaredMethods()) {
            if (Modifier.isPublic(method.getModifiers())) {
                List<String> types = new ArrayList<>();
                for (Class<?> type : method.getParameterTypes()) {
                    types.add(type.getName());
                }
                calls.add(method.getReturnType().getName() + " " + method.getName()
                        + "(" + String.join(", ", types) + ")");
            }
        }
        return sorted(calls);
    }

    private static List<String> testsOfTheProject() {
        List<String> tests = new ArrayList<>();
        String[] files = new File("src/test/java").list();
        for (String file : files == null ? new String[0] : files) {
            if (file.endsWith("Test.java")) {
                tests.add(file.substring(0, file.length() - ".java".length()));
            }
        }
        return sorted(tests);
    }

    private static List<String> sorted(List<String> names) {
        names.sort(null);
        return names;
    }

    private static void same(String what, List<String> got, List<String> want) {
        for (int i = 0; i < Math.max(got.size(), want.size()); i++) {
            String had = i < got.size() ? got.get(i) : "(nothing)";
            String due = i < want.size() ? want.get(i) : "(nothing)";
            CHECK.due(what + ", line " + i + ": '" + had + "' for '" + due + "'", had.equals(due), true);
        }
    }
}
