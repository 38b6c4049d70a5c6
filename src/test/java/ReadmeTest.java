import java.io.IOException;
import java.lang.reflect.InvocationTargetException;
import java.lang.reflect.Method;
import java.lang.reflect.Modifier;
import java.nio.file.Files;
import java.nio.file.Path;
import java.util.ArrayList;
import java.util.Arrays;
import java.util.LinkedHashMap;
import java.util.List;
import java.util.Map;
import java.util.TreeSet;
import java.util.regex.Matcher;
import java.util.regex.Pattern;
import java.util.stream.Stream;

/** README.md: its example stands here word for word and is run; its tables name what there is. */
public final class ReadmeTest {
    private static final Path README = Path.of("README.md");
    private static final Path TESTS = Path.of("src", "test", "java");
    private static final String FROM = "// from here on as in README.md";
    private static final String TO = "// up to here as in README.md";
    private static final Pattern TOLD = Pattern.compile("^(?:int|char) (\\w+) = .*; +// (\\w+)");
    private static final Pattern CALL = Pattern.compile("`(\\w+)\\(([^)`]*)\\)`");
    private static final Pattern QUOTED = Pattern.compile("`([^`]+)`");

    private final Check check = new Check();
    private final List<String> readme;

    private ReadmeTest() throws IOException {
        readme = Files.readAllLines(README);
    }

    public static void main(String[] args) throws IOException {
        ReadmeTest test = new ReadmeTest();
        test.theExampleIsTheSame();
        test.theExampleAnswersAsTold();
        test.theCallsAreNamed();
        test.theCommandsDoWhatTheirCallsDo();
        test.theTestsAreNamed();
        test.check.finish();
    }

    private static Map<String, Object> example() {
        // from here on as in README.md
        JarCannery cannery = new JarCannery();
        int raw = cannery.addRaw();                        // 0
        int batch = cannery.mix(1 << raw, 18);             // 0: of the set of this raw lot, with strength 18
        for (char letter : "abba".toCharArray()) {
            cannery.type(letter);
        }
        int label = cannery.addLabel();                    // 0: takes the typed text
        int lot = cannery.fill(batch, batch, label, 5);    // 0: five jars, of this one batch
        int spoiledLots = cannery.pass(3);                 // 0: each day the pressure rises by 21 - 18
        int length = cannery.writeLot(lot);                // 10: the line is now "0:5xabba/9"
        char fourth = cannery.lineAt(3);                   // x
        int recalledLots = cannery.recall(raw);            // 1: the lot is not stored any more
        int undoable = cannery.undo();                     // 5: it is stored again
        for (char sign : "mix 1 20;fill 1 1 0 9;day 2;ship 1".toCharArray()) {
            cannery.type(sign);
        }
        int commands = cannery.execute();                  // 4
        int shippedJars = cannery.shipped();               // 9
        // up to here as in README.md
        Map<String, Object> answers = new LinkedHashMap<>();
        answers.put("raw", raw);
        answers.put("batch", batch);
        answers.put("label", label);
        answers.put("lot", lot);
        answers.put("spoiledLots", spoiledLots);
        answers.put("length", length);
        answers.put("fourth", fourth);
        answers.put("recalledLots", recalledLots);
        answers.put("undoable", undoable);
        answers.put("commands", commands);
        answers.put("shippedJars", shippedJars);
        answers.put("line", Build.line(cannery, length));
        answers.put("stored", cannery.lotAt(0));
        return answers;
    }

    private static List<String> between(List<String> lines, String from, String to) {
        List<String> inside = new ArrayList<>();
        boolean open = false;
        for (String line : lines) {
            if (line.strip().equals(open ? to : from)) {
                open = !open;
            } else if (open) {
                inside.add(line.strip());
            }
        }
        return inside;
    }

    private List<String> told() {
        return between(readme, "```java", "```");
    }

    private void theExampleIsTheSame() throws IOException {
        List<String> run = between(Files.readAllLines(TESTS.resolve("ReadmeTest.java")), FROM, TO);
        check.due("the example of README.md", String.join("\n", run), () -> String.join("\n", told()));
    }

    private void theExampleAnswersAsTold() {
        Map<String, Object> answers = example();
        int values = 0;
        for (String line : told()) {
            Matcher matcher = TOLD.matcher(line);
            if (matcher.find()) {
                values++;
                check.due(matcher.group(1), matcher.group(2), () -> answers.get(matcher.group(1)));
            }
        }
        int found = values;
        check.due("values told in the example", answers.size() - 2, () -> found);
        check.due("the line", "0:5xabba/9", () -> answers.get("line"));
        check.due("the lot that is stored again", 0, () -> answers.get("stored"));
    }

    private static int parameters(String told) {
        return told.isBlank() ? 0 : told.split(",").length;
    }

    private void theCallsAreNamed() {
        TreeSet<String> due = new TreeSet<>();
        for (Method method : JarCannery.class.getDeclaredMethods()) {
            if (Modifier.isPublic(method.getModifiers())) {
                due.add(method.getName() + "/" + method.getParameterCount());
            }
        }
        TreeSet<String> named = new TreeSet<>();
        Matcher matcher = CALL.matcher(String.join("\n", readme));
        while (matcher.find()) {
            named.add(matcher.group(1) + "/" + parameters(matcher.group(2)));
        }
        check.due("calls named in README.md", due, () -> named);
    }

    /** Two raw lots, two batches, a label, and the jar lot 12. */
    private static JarCannery stocked() {
        JarCannery cannery = Build.raws(2);
        Build.label(cannery, "abba");
        cannery.mix(1, 20);
        cannery.mix(2, 20);
        for (int lot = 0; lot < 12; lot++) {
            cannery.fill(0, 0, 0, 1);
            cannery.ship(lot);
        }
        cannery.fill(0, 1, 0, 3);
        return cannery;
    }

    private static List<String> quotedIn(String cell) {
        List<String> quoted = new ArrayList<>();
        Matcher matcher = QUOTED.matcher(cell);
        while (matcher.find()) {
            quoted.add(matcher.group(1));
        }
        return quoted;
    }

    private void theCommandsDoWhatTheirCallsDo() {
        int commands = 0;
        for (String line : between(readme, "| command | call | each parameter |", "")) {
            String[] cells = line.split("\\|");
            List<String> texts = quotedIn(cells[1]);
            List<String> calls = quotedIn(cells[2]);
            check.due("calls of " + texts, texts.size(), calls::size);
            for (int index = 0; index < Math.min(texts.size(), calls.size()); index++) {
                commands++;
                doTheSame(texts.get(index), calls.get(index));
            }
        }
        int found = commands;
        check.due("commands in the table", 7, () -> found);
    }

    private void doTheSame(String text, String call) {
        JarCannery byText = stocked();
        JarCannery byCall = stocked();
        String before = Build.sight(byCall);
        check.due("commands of " + text, 1, () -> Build.execute(byText, text));
        check.due(call + " succeeds", "done", () -> invoke(byCall, call));
        check.due(call + " changes", false, () -> before.equals(Build.sight(byCall)));
        check.due(text + " as " + call, Build.sight(byCall), () -> Build.sight(byText));
    }

    private static String invoke(JarCannery cannery, String call) {
        int open = call.indexOf('(');
        String told = call.substring(open + 1, call.length() - 1);
        Object[] arguments = Stream.of(told.split(",")).map(String::strip).filter(part -> !part.isEmpty())
                .map(Integer::valueOf).toArray();
        Class<?>[] types = new Class<?>[arguments.length];
        Arrays.fill(types, int.class);
        try {
            JarCannery.class.getMethod(call.substring(0, open), types).invoke(cannery, arguments);
            return "done";
        } catch (NoSuchMethodException | IllegalAccessException | InvocationTargetException e) {
            return String.valueOf(e);
        }
    }

    private void theTestsAreNamed() throws IOException {
        TreeSet<String> due = new TreeSet<>();
        try (Stream<Path> files = Files.list(TESTS)) {
            files.map(file -> file.getFileName().toString()).filter(name -> name.endsWith("Test.java"))
                    .forEach(name -> due.add(name.replace(".java", "")));
        }
        TreeSet<String> named = new TreeSet<>();
        for (String line : between(readme, "| test | what it asks |", "")) {
            if (!line.startsWith("|---")) {
                named.add(line.split("\\|")[1].strip());
            }
        }
        check.due("tests named in README.md", due, () -> named);
        check.due("how to run them", true, () -> readme.contains("    bash .ci/run"));
    }
}
