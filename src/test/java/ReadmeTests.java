import java.io.IOException;
import java.lang.reflect.Method;
import java.lang.reflect.Modifier;
import java.nio.file.Files;
import java.nio.file.Path;
import java.util.regex.Matcher;
import java.util.regex.Pattern;

/** The calls of README.md, block by block, each on a new object: they answer what stands behind them. */
public final class ReadmeTests {
    private static final Path PAGE = Path.of("README.md");
    private static final String NEW = "NumberLeases leases = new NumberLeases();";
    private static final Pattern TYPE = Pattern.compile("type\\(leases, \"([^\"]+)\"\\);.*");
    private static final Pattern CALL = Pattern.compile(
        "(?:Float\\.intBitsToFloat\\()?leases\\.(\\w+)\\(([-\\d, ]*)\\)\\)?; +// (throws \\w+|[-.\\d]+)(:.*)?");

    private static NumberLeases leases = new NumberLeases();

    private ReadmeTests() {
    }

    public static void main(String[] args) throws IOException {
        boolean isCode = false;
        for (String line : Files.readAllLines(PAGE)) {
            if (line.startsWith("```")) {
                isCode = line.equals("```java");
            } else if (isCode) {
                carryOut(line);
            }
        }
        namesEachCall();
        Due.end();
    }

    private static void carryOut(String line) {
        Matcher type = TYPE.matcher(line);
        Matcher call = CALL.matcher(line);
        if (line.equals(NEW)) {
            leases = new NumberLeases();
        } else if (type.matches()) {
            Due.type(leases, type.group(1));
        } else if (call.matches()) {
            String text = call.group(1) + " " + call.group(2).replace(",", "");
            String got = answer(call.group(1), text.trim());
            Due.is("README: " + line + " | " + got, 1, got.equals(call.group(3)) ? 1 : 0);
        } else {
            Due.wrong("README: no call with its answer: " + line);
        }
    }

    private static String answer(String name, String call) {
        try {
            long answer = Story.make(leases, call);
            return switch (name) {
                case "fullness", "scatter" -> "" + Float.intBitsToFloat((int) answer);
                case "meanHeld" -> "" + Double.longBitsToDouble(answer);
                default -> "" + answer;
            };
        } catch (RuntimeException e) {
            return "throws " + e.getClass().getSimpleName();
        }
    }

    private static void namesEachCall() throws IOException {
        String page = Files.readString(PAGE);
        for (Method method : NumberLeases.class.getDeclaredMethods()) {
            if (Modifier.isPublic(method.getModifiers())) {
                Due.is("README names " + method.getName(), 1, page.contains("`" + method.getName() + "(") ? 1 : 0);
            }
        }
    }
}
