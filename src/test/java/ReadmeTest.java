import java.io.IOException;
import java.lang.reflect.Method;
import java.lang.reflect.Modifier;
import java.nio.file.Files;
import java.nio.file.Path;
import java.util.HashMap;
import java.util.List;
import java.util.Map;
import java.util.TreeMap;
import java.util.TreeSet;
import java.util.regex.Matcher;
import java.util.regex.Pattern;
import java.util.stream.Collectors;
import java.util.stream.Stream;

/**
 * README.md holds: each call that it shows is made and answers what is shown, each number that it takes apart
 * is that sum, its table of calls has each call of the class, and its table of tests has each test.
 */
final class ReadmeTest {
    private static final Due DUE = new Due("ReadmeTest");
    private static final String MAKING = "AskTrust house = new AskTrust();";
    private static final String NEVER = "never";
    private static final String REFUSED_HEADING = "### What a refused call answers";
    private static final Pattern CALL =
        Pattern.compile("house\\.(\\w+)\\(([^()]*)\\); +// (-?\\d+|NONE|true|false)(:.*)?");
    private static final Pattern SUM = Pattern.compile("[a-z ]+ (\\d+) = ([\\d+* ]+): .*");
    private static final Pattern CALL_ROW = Pattern.compile("\\| `(\\w+)\\(([^()]*)\\)` \\|.*\\| `?([^|`]+)`? \\|");
    private static final Pattern TEST_ROW = Pattern.compile("\\| (\\w+Test) \\|.*");

    private static final Map<String, Method> FACE = new TreeMap<>();
    private static final Map<String, String> REFUSED_ANSWER = new HashMap<>();
    private static final TreeSet<String> SHOWN = new TreeSet<>();
    private static final TreeSet<String> SHOWN_REFUSED = new TreeSet<>();
    private static final TreeSet<String> TESTS = new TreeSet<>();

    private static AskTrust house;
    private static String heading = "";

    public static void main(String[] args) throws IOException, ReflectiveOperationException {
        for (Method method : AskTrust.class.getDeclaredMethods()) {
            if (Modifier.isPublic(method.getModifiers())) {
                FACE.put(method.getName(), method);
            }
        }
        List<String> lines = Files.readAllLines(Path.of("README.md"));
        readRows(lines);
        readBlocks(lines);
        eachCallIsShown();
        eachTestIsNamed();
        DUE.end();
    }

    private static void readRows(List<String> lines) {
        for (String line : lines) {
            Matcher call = CALL_ROW.matcher(line);
            if (call.matches()) {
                String name = call.group(1);
                boolean isKnown = FACE.containsKey(name);
                DUE.yes("a row of a call that there is: " + line, isKnown);
                DUE.is("parameters in: " + line, countOf(call.group(2)), isKnown ? FACE.get(name).getParameterCount() : -1);
                DUE.yes("one row for " + name, REFUSED_ANSWER.put(name, call.group(3)) == null);
            }
            Matcher test = TEST_ROW.matcher(line);
            if (test.matches()) {
                DUE.yes("one row for " + test.group(1), TESTS.add(test.group(1)));
            }
        }
    }

    private static int countOf(String list) {
        return list.isBlank() ? 0 : list.split(",").length;
    }

    private static void readBlocks(List<String> lines) throws ReflectiveOperationException {
        String block = "";
        for (String line : lines) {
            if (line.startsWith("```")) {
                block = block.isEmpty() ? line.substring(3) : "";
                DUE.yes("a block of a kind that is tested: " + line, List.of("", "java", "text", "sh").contains(block));
                // Each block stands for itself, so that it can be copied alone.
                house = null;
            } else if (block.isEmpty()) {
                heading = line.startsWith("#") ? line : heading;
            } else if (block.equals("java")) {
                readCall(line);
            } else if (block.equals("text")) {
                readSum(line);
            }
        }
        DUE.yes("the last block is closed", block.isEmpty());
    }

    private static void readCall(String line) throws ReflectiveOperationException {
        if (line.equals(MAKING)) {
            house = new AskTrust();
            return;
        }
        Matcher call = CALL.matcher(line);
        boolean isCall = call.matches() && FACE.containsKey(call.group(1)) && house != null;
        DUE.yes("a call with its answer: " + line, isCall);
        if (!isCall) {
            return;
        }
        Method method = FACE.get(call.group(1));
        boolean isOfThisLength = countOf(call.group(2)) == method.getParameterCount();
        DUE.yes("as many arguments as it takes: " + line, isOfThisLength);
        if (!isOfThisLength) {
            return;
        }
        String got = String.valueOf(method.invoke(house, argumentsOf(method, call.group(2))));
        String shown = call.group(3);
        DUE.yes(line + " answers " + got, got.equals(shown.equals("NONE") ? "-1" : shown));
        SHOWN.add(call.group(1));
        if (heading.equals(REFUSED_HEADING) && shown.equals(REFUSED_ANSWER.get(call.group(1)))) {
            SHOWN_REFUSED.add(call.group(1));
        }
    }

    private static Object[] argumentsOf(Method method, String list) {
        Object[] arguments = new Object[method.getParameterCount()];
        for (int i = 0; i < arguments.length; i++) {
            String text = list.split(",")[i].trim();
            if (method.getParameterTypes()[i] == boolean.class) {
                arguments[i] = Boolean.valueOf(text);
            } else {
                arguments[i] = Integer.valueOf(text);
            }
        }
        return arguments;
    }

    private static void readSum(String line) {
        Matcher sum = SUM.matcher(line);
        DUE.yes("a number with its parts: " + line, sum.matches());
        if (sum.matches()) {
            int found = 0;
            for (String part : sum.group(2).split("\\+")) {
                int product = 1;
                for (String factor : part.split("\\*")) {
                    product *= Integer.parseInt(factor.trim());
                }
                found += product;
            }
            DUE.is("the sum of: " + line, found, Integer.parseInt(sum.group(1)));
        }
    }

    private static void eachCallIsShown() {
        for (String name : FACE.keySet()) {
            DUE.yes(name + " is shown with its answer", SHOWN.contains(name));
            DUE.yes(name + " has a row", REFUSED_ANSWER.containsKey(name));
            boolean isNever = NEVER.equals(REFUSED_ANSWER.get(name));
            DUE.yes(name + " is shown refused, if it can be", isNever || SHOWN_REFUSED.contains(name));
        }
    }

    private static void eachTestIsNamed() throws IOException {
        try (Stream<Path> files = Files.list(Path.of("src/test/java"))) {
            TreeSet<String> there = files.map(file -> file.getFileName().toString())
                .filter(name -> name.endsWith("Test.java"))
                .map(name -> name.replace(".java", ""))
                .collect(Collectors.toCollection(TreeSet::new));
            DUE.yes("the tests that are there, " + there + ", are those that are named, " + TESTS, there.equals(TESTS));
        }
    }
}
