import java.io.IOException;
import java.lang.reflect.Method;
import java.lang.reflect.Modifier;
import java.nio.charset.StandardCharsets;
import java.nio.file.Files;
import java.nio.file.Path;
import java.util.ArrayList;
import java.util.Arrays;
import java.util.HashMap;
import java.util.List;
import java.util.Map;
import java.util.regex.Matcher;
import java.util.regex.Pattern;
import java.util.stream.Stream;

/** README.md against the class, the document's face and the tests there are. It is run from the project's folder. */
public final class ReadmeTest {
    private static final Check CHECK = new Check("ReadmeTest");
    private static final Path README = Path.of("README.md");
    private static final Path DOCUMENT = Path.of("../shared/DOC.md");
    private static final Path TESTS = Path.of("src/test/java");
    private static final Pattern STATEMENT =
        Pattern.compile("(?:int (\\w+) = )?town\\.(\\w+)\\(([^)]*)\\); +// (true|false|-?\\d+)\\b.*");
    private static final Pattern ROW =
        Pattern.compile("\\| `((?:int|long|boolean) (\\w+)\\([^`]*)` \\| .* \\| `([^`]+)` \\|");

    private ReadmeTest() {
    }

    public static void main(String[] args) throws IOException, ReflectiveOperationException {
        String page = Files.readString(README, StandardCharsets.UTF_8);
        examples(page);
        refusals(page);
        fullRefusals();
        tests(page);
        CHECK.end();
    }

    /** Every line of the examples is called, in one town, and answers what its comment says. */
    private static void examples(String page) throws ReflectiveOperationException {
        ShadeRegister town = new ShadeRegister(6, 5);
        CHECK.holds("the town is made as here", page.contains("ShadeRegister town = new ShadeRegister(6, 5); "));
        Map<String, Integer> names = new HashMap<>(Map.of("ShadeRegister.NONE", ShadeRegister.NONE));
        int called = 0;
        for (String line : linesOfExamples(page)) {
            Matcher m = STATEMENT.matcher(line);
            boolean understood = m.matches();
            CHECK.holds("is a call with its answer: " + line, understood || line.startsWith("ShadeRegister town = "));
            if (understood) {
                long got = call(town, methodOf(m.group(2)), numbers(m.group(3), names));
                CHECK.due("README: " + line, got, numberOf(m.group(4)));
                if (m.group(1) != null) {
                    names.put(m.group(1), (int) got);
                }
                called++;
            }
        }
        CHECK.holds("examples were found", called > 25);
    }

    private static List<String> linesOfExamples(String page) {
        List<String> lines = new ArrayList<>();
        boolean within = false;
        for (String line : page.lines().toList()) {
            if (line.startsWith("```")) {
                within = line.equals("```java");
            } else if (within && !line.isBlank()) {
                lines.add(line);
            }
        }
        return lines;
    }

    private static int[] numbers(String list, Map<String, Integer> names) {
        return list.isBlank() ? new int[0]
            : Stream.of(list.split(", ")).mapToInt(one -> names.containsKey(one) ? names.get(one) : Integer.decode(one))
                .toArray();
    }

    private static long numberOf(String answer) {
        switch (answer) {
            case "true": return 1;
            case "false": return 0;
            case "NONE": return ShadeRegister.NONE;
            default: return Long.parseLong(answer);
        }
    }

    private static Method methodOf(String name) {
        for (Method m : ShadeRegister.class.getDeclaredMethods()) {
            if (m.getName().equals(name) && Modifier.isPublic(m.getModifiers())) {
                return m;
            }
        }
        throw new IllegalArgumentException("no call is named " + name);
    }

    private static long call(ShadeRegister town, Method m, int... args) throws ReflectiveOperationException {
        Object answer = m.invoke(town, Arrays.stream(args).boxed().toArray());
        return answer instanceof Boolean b ? Bounds.bit(b) : ((Number) answer).longValue();
    }

    /** Each call has its row, as the document's face has it, and answers what that says when it is refused. */
    private static void refusals(String page) throws IOException, ReflectiveOperationException {
        String document = Files.readString(DOCUMENT, StandardCharsets.UTF_8);
        Map<String, String> rows = new HashMap<>();
        for (String line : page.lines().toList()) {
            Matcher m = ROW.matcher(line);
            if (m.matches()) {
                CHECK.holds("the document's face has " + m.group(1),
                    document.contains("    public " + m.group(1) + ";\n"));
                rows.put(m.group(2), m.group(3));
            }
        }
        int calls = 0;
        for (Method m : ShadeRegister.class.getDeclaredMethods()) {
            if (Modifier.isPublic(m.getModifiers())) {
                CHECK.holds("README has a row for " + m.getName(), rows.containsKey(m.getName()));
                calls++;
                boolean takesAll = m.getParameterCount() == 0 || m.getName().equals("feed");
                for (int wrong : takesAll ? new int[0] : new int[] {Integer.MIN_VALUE, Integer.MAX_VALUE}) {
                    int[] args = new int[m.getParameterCount()];
                    Arrays.fill(args, wrong);
                    long want = numberOf(rows.getOrDefault(m.getName(), "none"));
                    CHECK.due(m.getName() + " of " + wrong, call(Towns.rich(), m, args), want);
                }
            }
        }
        CHECK.due("rows", rows.size(), calls);
    }

    /** The calls that no argument can spoil are refused where the town is full or the text has a fault. */
    private static void fullRefusals() {
        ShadeRegister x = new ShadeRegister(4, 4);
        for (int i = 0; i < 16; i++) {
            x.person();
        }
        CHECK.due("the 17th person", x.person(), ShadeRegister.NONE);
        for (int i = 0; i < 20; i++) {
            x.feed(0, 0, 0, 0, 0);
        }
        CHECK.due("the 401st byte", x.feed(0, 0, 0, 0, 0), ShadeRegister.NONE);
        CHECK.due("it left the tape as it was", x.about(9), 400);
        Towns.read(x, "");
        CHECK.due("the text's fault", x.fault(0), 1);
        Towns.read(x, "give 7;");
        x.feed(0, 0, 0, 0, 0);
        CHECK.due("a text with a fault", x.tariff(), ShadeRegister.NONE);
        CHECK.due("its tape is empty then too", x.about(9), 0);
        CHECK.due("fault tells why", x.fault(0), 1);
        CHECK.due("the former tariff stays", x.gives(0, 0, 0, 0, 0, 0), 7);
    }

    private static void tests(String page) throws IOException {
        try (Stream<Path> files = Files.list(TESTS)) {
            for (Path file : files.toList()) {
                String name = file.getFileName().toString().replace(".java", "");
                CHECK.holds("README lists " + name, !name.endsWith("Test") || page.contains("| `" + name + "` | "));
            }
        }
        CHECK.holds("how all tests are run", page.contains("\nbash .ci/run\n"));
    }
}
