import java.io.IOException;
import java.lang.reflect.Method;
import java.nio.file.Files;
import java.nio.file.Path;
import java.util.Arrays;
import java.util.regex.Matcher;
import java.util.regex.Pattern;

/** Each call of the README's example is answered as it says there. */
public final class ReadmeTest {
    private static final Checks CHECK = new Checks();
    private static final Pattern CALL = Pattern.compile("town\\.(\\w+)\\((.*)\\); +// (-?\\d+|true|false)\\b.*");
    private static final Pattern PUT = Pattern.compile("put\\(town, (.*)\\);");

    private static HiccupTown town = new HiccupTown();

    public static void main(String[] args) throws IOException, ReflectiveOperationException {
        String readme = Files.readString(Path.of("README.md"));
        int example = readme.indexOf("HiccupTown town = new HiccupTown();");
        String[] lines = readme.substring(example, readme.indexOf("```", example)).replace("\n        + ", " + ").split("\n");
        int calls = 0;
        for (String line : Arrays.asList(lines).subList(1, lines.length)) {
            Matcher call = CALL.matcher(line);
            Matcher put = PUT.matcher(line);
            if (call.matches()) {
                calls++;
                CHECK.due(line, answer(call.group(1), call.group(2)), number(call.group(3)));
            } else if (put.matches()) {
                Checks.put(town, textOf(put.group(1)));
            } else {
                CHECK.due("a line that is a remark or empty: '" + line + "'", line.isBlank() || line.startsWith("//"), true);
            }
        }
        CHECK.due("calls of the example", calls > 30, true);
        CHECK.finish();
    }

    private static String textOf(String written) {
        return written.replace("\" + \"", "").replaceAll("^\"|\"$", "").translateEscapes();
    }

    private static long number(String text) {
        if (text.equals("true") || text.equals("false")) {
            return text.equals("true") ? 1 : 0;
        }
        return text.equals("HiccupTown.NONE") ? HiccupTown.NONE : Integer.parseInt(text);
    }

    private static long answer(String name, String written) throws ReflectiveOperationException {
        String[] texts = written.isEmpty() ? new String[0] : written.split(", ");
        Object[] numbers = Arrays.stream(texts).map(text -> (int) number(text)).toArray();
        for (Method method : HiccupTown.class.getMethods()) {
            if (method.getName().equals(name) && method.getParameterCount() == numbers.length) {
                return number(String.valueOf(method.invoke(town, numbers)));
            }
        }
        throw new NoSuchMethodException(name);
    }
}
