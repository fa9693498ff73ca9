import java.io.File;
import java.io.IOException;
import java.lang.reflect.Method;
import java.lang.reflect.Modifier;
import java.net.URL;
import java.net.URLClassLoader;
import java.nio.file.Files;
import java.nio.file.Path;
import java.util.ArrayList;
import java.util.Arrays;
import java.util.List;
import java.util.Set;
import java.util.TreeSet;
import java.util.function.BiConsumer;
import java.util.regex.Matcher;
import java.util.regex.Pattern;
import java.util.stream.Collectors;
import javax.tools.JavaCompiler;
import javax.tools.ToolProvider;

/** README.md shows every call, and what it shows of calls and answers is what the class does. */
public final class ReadmeTest {
    private static final Pattern BLOCK = Pattern.compile("(?s)```java\n(.*?)```");
    // A statement with its answer: [type name =] call; // answer
    private static final Pattern SHOWN =
        Pattern.compile("(?:(int|long|boolean) (\\w+) = )?(.*\\));\\s*// (-?\\d+|true|false|NONE)\\b.*");
    private static final Pattern ROW = Pattern.compile("\\| `(\\w+)\\(([^)]*)\\)` \\|([^|]*)\\|([^|]*)\\|([^|]*)\\|");
    private static final Pattern ANSWER = Pattern.compile("`([^`]+\\))` is `([^`]+)`");
    private static final Pattern CLAUSE = Pattern.compile("\\| `([^`|]+;)` \\|");
    private static final Pattern SUM = Pattern.compile("\\| `([^`|]+)` \\|[^|]*\\| `(-?\\d+)` \\|");
    private static final Pattern REFUSAL = Pattern.compile("`(NONE|-2|-100|false)`: .*");

    private static final StringBuilder PROGRAM = new StringBuilder();
    private static final List<String> SHOWN_ANSWERS = new ArrayList<>();
    private static int blocks = 0;

    public static void main(String[] args) throws Exception {
        String page = Files.readString(Path.of(System.getProperty("project.root", "."), "README.md"));
        PROGRAM.append("public final class Shown {\nstatic final int NONE = RumourRent.NONE;\n");
        Matcher block = BLOCK.matcher(page);
        while (block.find()) {
            addBlock(block.group(1));
        }
        addTables(page);
        PROGRAM.append("public static void run(java.util.function.BiConsumer<String, Object> told) {\n");
        for (int i = 0; i < blocks; i++) {
            PROGRAM.append("block").append(i).append("(told);\n");
        }
        PROGRAM.append("}\n}\n");
        runShown();
        readClauses(page);
        judgeSums(page);
        compareWithDocument(page);
        Check.finish("ReadmeTest");
    }

    private static void beginBlock() {
        PROGRAM.append("static void block").append(blocks);
        PROGRAM.append("(java.util.function.BiConsumer<String, Object> told) {\n");
        blocks++;
    }

    private static void addBlock(String code) {
        if (code.startsWith("static ")) {
            PROGRAM.append(code);
            return;
        }
        beginBlock();
        for (String line : code.split("\n")) {
            addLine(line);
        }
        PROGRAM.append("}\n");
    }

    private static void addLine(String line) {
        Matcher shown = SHOWN.matcher(line);
        if (!shown.matches()) {
            boolean isBare = line.startsWith("for (") || line.contains("= new RumourRent();");
            Check.due("\"" + line + "\" shows its answer", isBare, true);
            PROGRAM.append(line).append("\n");
            return;
        }
        String value = shown.group(3);
        if (shown.group(2) != null) {
            PROGRAM.append(shown.group(1) + " " + shown.group(2) + " = " + value + ";\n");
            value = shown.group(2);
        }
        tell(line, value, shown.group(4));
    }

    // Each answer is told in the order in which it is shown.
    private static void tell(String shown, String value, String answer) {
        String quoted = shown.replace("\\", "\\\\").replace("\"", "\\\"");
        PROGRAM.append("told.accept(\"" + quoted + "\", " + value + ");\n");
        SHOWN_ANSWERS.add(answer.equals("NONE") ? "-1" : answer);
    }

    private static void addTables(String page) {
        beginBlock();
        Matcher row = ROW.matcher(page);
        while (row.find()) {
            Matcher answer = ANSWER.matcher(row.group(5));
            int found = 0;
            for (; answer.find(); found++) {
                tell(answer.group(), "new RumourRent()." + answer.group(1), answer.group(2));
                Check.due(answer.group() + " is of its row", answer.group(1).startsWith(row.group(1) + "("), true);
            }
            Check.due("the row of " + row.group(1) + " has an answer", found > 0, true);
        }
        PROGRAM.append("}\n");
    }

    private static void runShown() throws Exception {
        Path place = Files.createTempDirectory("readme");
        try {
            Path source = Files.writeString(place.resolve("Shown.java"), PROGRAM);
            JavaCompiler compiler = ToolProvider.getSystemJavaCompiler();
            String classes = System.getProperty("java.class.path");
            int wrong = compiler.run(null, null, null, "-cp", classes, "-d", place.toString(), source.toString());
            Check.due("faults in compiling what is shown", wrong, 0);
            if (wrong == 0) {
                runClass(place);
            }
        } finally {
            for (File file : place.toFile().listFiles()) {
                file.delete();
            }
            Files.delete(place);
        }
    }

    private static void runClass(Path place) throws Exception {
        int[] count = {0};
        BiConsumer<String, Object> told = (shown, answer) -> {
            String due = SHOWN_ANSWERS.get(count[0]);
            Check.due("README.md, " + shown + " (answered " + answer + "):", due.equals(answer.toString()), true);
            count[0]++;
        };
        try (URLClassLoader loader = new URLClassLoader(new URL[] {place.toUri().toURL()})) {
            loader.loadClass("Shown").getMethod("run", BiConsumer.class).invoke(null, told);
        }
        Check.due("answers that are shown", count[0], SHOWN_ANSWERS.size());
    }

    private static void readClauses(String page) {
        Set<String> kinds = new TreeSet<>();
        Matcher clause = CLAUSE.matcher(page);
        while (clause.find()) {
            kinds.add(clause.group(1).split(" ")[0]);
            Check.due("README.md, " + clause.group(1) + " is read:", Check.read(new RumourRent(), clause.group(1)), 0);
        }
        Check.due("kinds of clauses that are shown", kinds.size(), 8);
    }

    private static void judgeSums(String page) {
        int found = 0;
        Matcher sum = SUM.matcher(page);
        while (sum.find()) {
            RumourRent town = Check.withRoads(0, 1);
            town.rumour(1, 50);
            town.tell(0, 0);
            town.by(Check.read(town, "believes " + sum.group(1) + ";"));
            Check.due("README.md, " + sum.group(1) + " is read:", town.fault(0), 0);
            Check.due("README.md, " + sum.group(1) + ":", town.believes(1, 0), Integer.parseInt(sum.group(2)));
            found++;
        }
        Check.due("sums that are shown", found > 0, true);
    }

    // Every call of the face has one row, with the document's names, and refuses by what its promise says.
    private static void compareWithDocument(String page) throws IOException {
        Set<String> due = Arrays.stream(RumourRent.class.getDeclaredMethods())
            .filter(m -> Modifier.isPublic(m.getModifiers())).map(Method::getName)
            .collect(Collectors.toCollection(TreeSet::new));
        Path path = Path.of(System.getProperty("project.root", "."), "../shared/DOC.md");
        String document = Files.exists(path) ? Files.readString(path) : null;
        Matcher row = ROW.matcher(page);
        while (row.find()) {
            Check.due("one row for " + row.group(1), due.remove(row.group(1)), true);
            if (document != null) {
                compareRow(document, row.group(1), row.group(2), row.group(4).trim());
            }
        }
        Check.due("without a row are " + due, due.size(), 0);
    }

    private static void compareRow(String document, String name, String parameters, String refusal) {
        Matcher promise = Pattern.compile("\n`\\w+ " + name + "\\(([^)]*)\\)`: (.*)").matcher(document);
        Check.due(name + " is promised", promise.find(), true);
        Check.due("parameters of " + name, parameters.equals(promise.group(1).replaceAll("\\w+ (\\w+)", "$1")), true);
        Matcher shown = REFUSAL.matcher(refusal);
        boolean refuses = shown.matches();
        Check.due(name + " refuses as it should: " + refusal, refuses || refusal.isEmpty(), true);
        String word = refuses ? shown.group(1).replace("false", "False") : "";
        Check.due(name + ": " + word + " is promised", promise.group(2).contains(word), true);
        boolean canRefuse = promise.group(2).matches(".*(NONE|-2|-100|False).*");
        Check.due(name + " can refuse", refuses, canRefuse);
    }
}
