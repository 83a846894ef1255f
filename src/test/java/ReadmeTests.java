import java.io.IOException;
import java.lang.reflect.InvocationTargetException;
import java.lang.reflect.Method;
import java.nio.file.Files;
import java.nio.file.Path;
import java.util.Set;
import java.util.TreeSet;
import java.util.regex.Matcher;
import java.util.regex.Pattern;

/** README.md says how to use the class: the calls of its example are made, and held against the answers that it tells. */
final class ReadmeTests {
    private static final Path README = Path.of("README.md");
    private static final Path TESTS = Path.of("src/test/java");
    private static final Pattern CALL = Pattern.compile("street\\.(\\w+)\\(([^)]*)\\); *// (-?\\d+|true|false): .*");

    private ReadmeTests() {
    }

    static void run() {
        try {
            String text = Files.readString(README);
            example(text);
            limits(text);
            tests(text);
        } catch (IOException e) {
            Check.holds("README.md and the tests can be read", false);
        }
    }

    private static void example(String text) {
        LampCounts street = new LampCounts();
        int calls = 0;
        for (String line : text.split("\n")) {
            if (line.startsWith("street.")) {
                Matcher call = CALL.matcher(line);
                boolean told = call.matches();
                Check.holds("README, a call with its answer: " + line, told);
                Check.holds("README, " + line, told && call.group(3).equals(answer(street, call)));
                calls++;
            }
        }
        Check.holds("README has an example", calls > 10 && text.contains("LampCounts street = new LampCounts();"));
    }

    private static String answer(LampCounts street, Matcher call) {
        for (Method method : LampCounts.class.getMethods()) {
            if (method.getName().equals(call.group(1))) {
                try {
                    return String.valueOf(method.invoke(street, arguments(method, call.group(2))));
                } catch (InvocationTargetException | IllegalAccessException | IllegalArgumentException e) {
                    return "no answer";
                }
            }
        }
        return "no such method";
    }

    private static Object[] arguments(Method method, String text) {
        String[] parts = text.isEmpty() ? new String[0] : text.split(", ");
        Object[] all = new Object[parts.length];
        for (int i = 0; i < parts.length; i++) {
            boolean flag = i < method.getParameterCount() && method.getParameterTypes()[i] == boolean.class;
            all[i] = flag ? (Object) Boolean.valueOf(parts[i]) : (Object) Integer.valueOf(parts[i]);
        }
        return all;
    }

    private static void limits(String text) {
        for (String limit : new String[] {"200 hours", "60 findings", "30 leases", "50 lots left", "1000000 coins",
            "512 calls"}) {
            Check.holds("README tells the limit: " + limit, text.contains(limit));
        }
    }

    /** Each test that stands in the folder is told in README.md, and run. */
    private static void tests(String text) throws IOException {
        Set<String> told = new TreeSet<>();
        Matcher names = Pattern.compile("`(\\w+Tests)`:").matcher(text);
        while (names.find()) {
            told.add(names.group(1));
        }
        String all = Files.readString(TESTS.resolve("AllTests.java"));
        Set<String> there = new TreeSet<>();
        for (String file : TESTS.toFile().list()) {
            String name = file.replace(".java", "");
            if (name.endsWith("Tests") && !name.equals("AllTests")) {
                there.add(name);
                Check.holds("run with the others: " + name, all.contains("        " + name + ".run();"));
            }
        }
        Check.holds("README tells the tests: " + told + ", there are " + there, told.equals(there));
        Check.holds("README tells how they are run", text.contains("\n.ci/run\n"));
    }
}
