import java.io.IOException;
import java.lang.reflect.Method;
import java.lang.reflect.Modifier;
import java.nio.file.Files;
import java.nio.file.Path;
import java.util.HashMap;
import java.util.Map;
import java.util.Set;
import java.util.TreeSet;
import java.util.regex.Matcher;
import java.util.regex.Pattern;

// Runs the example of README.md line by line: each call must answer what stands behind it.
public final class ProofPackerReadme {
    private static final Pattern BLOCK = Pattern.compile("(?s)```java\\n(.*?)```");
    private static final Pattern CALL =
            Pattern.compile("(?:int (\\w+) = )?x\\.(\\w+)\\(([^)]*)\\);\\s*// (-?\\d+): .+");
    private static final int FEWEST_CALLS = 15;

    private static final ProofPacker packer = new ProofPacker();
    private static final Map<String, Integer> names = new HashMap<>();
    private static int calls = 0;
    private static int wrong = 0;

    private static void fault(String what) {
        wrong++;
        System.out.println(what);
    }

    public static void main(String[] args) throws IOException, ReflectiveOperationException {
        String readme = Files.readString(Path.of("README.md"));
        Matcher block = BLOCK.matcher(readme);
        if (block.find()) {
            for (String line : block.group(1).split("\n")) {
                runLine(line);
            }
        }
        if (calls < FEWEST_CALLS) {
            fault("README.md has an example of " + calls + " calls alone");
        }
        everyCallIsNamed(readme);
        everyTestIsNamed(readme);
        System.out.println(wrong == 0 ? "the example holds" : wrong + " faults of README.md");
        if (wrong != 0) {
            System.exit(1);
        }
    }

    private static void runLine(String line) throws ReflectiveOperationException {
        if (line.equals("ProofPacker x = new ProofPacker();")) {
            return;
        }
        Matcher call = CALL.matcher(line);
        if (!call.matches()) {
            fault("not a call with its answer: " + line);
            return;
        }
        long got = answer(call.group(2), call.group(3));
        calls++;
        if (got != Long.parseLong(call.group(4))) {
            fault("answered " + got + ": " + line);
        }
        if (call.group(1) != null) {
            names.put(call.group(1), (int) got);
        }
    }

    private static long answer(String name, String arguments) throws ReflectiveOperationException {
        String[] texts = arguments.isEmpty() ? new String[0] : arguments.split(", ");
        Class<?>[] types = new Class<?>[texts.length];
        Object[] values = new Object[texts.length];
        for (int k = 0; k < texts.length; k++) {
            types[k] = int.class;
            values[k] = names.containsKey(texts[k]) ? names.get(texts[k]) : Integer.valueOf(texts[k]);
        }
        Method method = ProofPacker.class.getMethod(name, types);
        return ((Number) method.invoke(packer, values)).longValue();
    }

    private static void everyCallIsNamed(String readme) {
        Set<String> all = new TreeSet<>();
        for (Method one : ProofPacker.class.getDeclaredMethods()) {
            if (Modifier.isPublic(one.getModifiers())) {
                all.add(one.getName());
            }
        }
        for (String name : all) {
            if (!readme.contains("`" + name + "(")) {
                fault("README.md does not tell of " + name);
            }
        }
    }

    private static void everyTestIsNamed(String readme) throws IOException {
        try (var tests = Files.list(Path.of("src/test/java"))) {
            tests.map(test -> test.getFileName().toString().replace(".java", "")).sorted().forEach(name -> {
                if (!readme.contains("- `" + name + "`:")) {
                    fault("README.md does not tell of the test " + name);
                }
            });
        }
    }
}
