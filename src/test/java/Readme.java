import java.lang.reflect.Method;
import java.nio.file.Files;
import java.nio.file.Path;
import java.util.regex.Matcher;
import java.util.regex.Pattern;

/** Makes the calls of the example in README.md and looks whether each answers what is said behind it. */
public final class Readme {
    private static final Pattern CALL = Pattern.compile("x\\.(\\w+)\\(([-\\d, ]*)\\); +// (-?\\d+): .*");
    private static final Pattern FEED = Pattern.compile("feed\\(\"([^\"]*)\"\\);.*");

    private static long answer(FoldedFilled x, String name, String arguments) throws Exception {
        String[] numbers = arguments.isEmpty() ? new String[0] : arguments.split(", ");
        for (Method method : FoldedFilled.class.getMethods()) {
            if (method.getName().equals(name)) {
                Object[] values = new Object[numbers.length];
                for (int i = 0; i < values.length; i++) {
                    values[i] = Integer.valueOf(numbers[i]);
                }
                return ((Number) method.invoke(x, values)).longValue();
            }
        }
        throw new IllegalArgumentException("the class has no " + name);
    }

    private static String example(String readme) {
        int from = readme.indexOf("```java\n") + 8;
        return readme.substring(from, readme.indexOf("```", from));
    }

    public static void main(String[] args) throws Exception {
        Path main = Path.of(args[0]).toAbsolutePath().normalize();
        Path readme = main.resolve("../../../../README.md").normalize();
        FoldedFilled x = new FoldedFilled();
        int calls = 0;
        int wrong = 0;
        for (String line : example(Files.readString(readme)).split("\n")) {
            Matcher feed = FEED.matcher(line);
            Matcher call = CALL.matcher(line);
            if (feed.matches()) {
                for (char sign : feed.group(1).toCharArray()) {
                    x.feed(sign);
                }
            } else if (call.matches()) {
                calls++;
                long got = answer(x, call.group(1), call.group(2));
                if (got != Long.parseLong(call.group(3))) {
                    wrong++;
                    System.out.println("README.md: " + line + "\nanswered " + got);
                }
            } else if (!line.isBlank() && !line.equals("FoldedFilled x = new FoldedFilled();")) {
                wrong++;
                System.out.println("README.md: no call with its answer: " + line);
            }
        }
        System.out.println("Readme: " + calls + " calls, " + wrong + " not as README.md says");
        if (wrong > 0 || calls == 0) {
            System.exit(1);
        }
    }
}
