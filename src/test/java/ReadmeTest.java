import java.lang.reflect.Method;
import java.lang.reflect.Modifier;
import java.nio.charset.StandardCharsets;
import java.nio.file.Files;
import java.nio.file.Path;
import java.util.List;
import java.util.regex.Matcher;
import java.util.regex.Pattern;

/** What README.md says of the class's use: each line of its example answers so, each method of the face is named. */
public final class ReadmeTest {
    private static final Pattern CALL = Pattern.compile("x\\.(\\w+)\\(([^)]*)\\); +// (-?\\w+).*");

    private static final Due DUE = new Due("ReadmeTest");

    public static void main(String[] args) throws Exception {
        List<String> lines = Files.readAllLines(Path.of("README.md"), StandardCharsets.UTF_8);
        int begins = lines.indexOf("```java");
        int ends = begins + lines.subList(Math.max(0, begins), lines.size()).indexOf("```");
        DUE.is("there is an example", begins >= 0 && ends > begins + 2, true);
        example(lines.subList(begins + 1, ends));
        names(String.join("\n", lines));
        DUE.close();
    }

    private static void example(List<String> lines) throws Exception {
        DUE.is("its first line makes an object", lines.get(0).startsWith("WideMap x = new WideMap();"), true);
        WideMap x = new WideMap();
        for (String line : lines.subList(1, lines.size())) {
            Matcher call = CALL.matcher(line);
            DUE.is(line + " tells its answer", call.matches(), true);
            if (call.matches()) {
                DUE.is(line, answer(x, call.group(1), numbersOf(call.group(2))), call.group(3));
            }
        }
    }

    private static Object[] numbersOf(String told) {
        String[] parts = told.isEmpty() ? new String[0] : told.split(", ");
        Object[] numbers = new Object[parts.length];
        for (int i = 0; i < parts.length; i++) {
            numbers[i] = Long.decode(parts[i]).intValue();
        }
        return numbers;
    }

    private static String answer(WideMap x, String name, Object[] numbers) throws Exception {
        for (Method method : WideMap.class.getMethods()) {
            if (method.getName().equals(name) && method.getParameterCount() == numbers.length) {
                return String.valueOf(method.invoke(x, numbers));
            }
        }
        return "nothing: there is no such method";
    }

    private static void names(String readme) {
        for (Method method : WideMap.class.getDeclaredMethods()) {
            if (Modifier.isPublic(method.getModifiers())) {
                DUE.is(method.getName() + " is named", readme.contains("`" + method.getName() + "`"), true);
            }
        }
    }
}
