import java.lang.reflect.Method;
import java.nio.file.Files;
import java.nio.file.Path;
import java.util.HashMap;
import java.util.Map;
import java.util.regex.Matcher;
import java.util.regex.Pattern;

/** The examples of README.md, in their order on one object: each gives the answer behind it. */
public final class ReadmeTest {
    private static final Pattern CALL =
        Pattern.compile("(?:int (\\w+) = )?x\\.(\\w+)\\((.*)\\);\\s+// (-?\\d+)\\b.*");
    private static final int FEWEST = 30;

    private static final FairFight x = new FairFight();
    private static final Map<String, Integer> known = new HashMap<>();

    private static int wrong = 0;
    private static int seen = 0;

    private static void tell(String what) {
        wrong++;
        System.out.println("README.md: " + what);
    }

    private static int number(String word) {
        return known.containsKey(word) ? known.get(word) : Integer.parseInt(word);
    }

    private static long answer(String name, String words) throws Exception {
        String[] parts = words.isEmpty() ? new String[0] : words.split(", ");
        Object[] numbers = new Object[parts.length];
        Class<?>[] types = new Class<?>[parts.length];
        for (int i = 0; i < parts.length; i++) {
            numbers[i] = number(parts[i]);
            types[i] = int.class;
        }
        Method call = FairFight.class.getMethod(name, types);
        return ((Number) call.invoke(x, numbers)).longValue();
    }

    private static void look(String line) throws Exception {
        Matcher call = CALL.matcher(line);
        if (!call.matches()) {
            tell("not an example with its answer: " + line);
            return;
        }
        long got = answer(call.group(2), call.group(3));
        if (call.group(1) != null) {
            known.put(call.group(1), (int) got);
        }
        seen++;
        if (got != Long.parseLong(call.group(4))) {
            tell(line + " answered " + got);
        }
    }

    public static void main(String[] args) throws Exception {
        known.put("FairFight.NONE", FairFight.NONE);
        boolean within = false;
        for (String line : Files.readAllLines(Path.of("README.md"))) {
            if (line.startsWith("```")) {
                within = line.equals("```java");
            } else if (within && !line.equals("FairFight x = new FairFight();")) {
                look(line);
            }
        }
        if (seen < FEWEST) {
            tell("only " + seen + " examples were found");
        }
        System.out.println(wrong == 0 ? "all " + seen + " examples are right"
            : wrong + " examples are not right");
        if (wrong != 0) {
            System.exit(1);
        }
    }
}
