import java.lang.reflect.Method;
import java.lang.reflect.Modifier;
import java.nio.file.Files;
import java.nio.file.Path;
import java.util.Arrays;
import java.util.List;
import java.util.regex.Matcher;
import java.util.regex.Pattern;

/** README.md: each call of its examples answers what stands behind it, and it names each call, constant and test. */
public final class ReadmeTest {
    private static final Checks checks = new Checks();
    private static final Pattern EXAMPLE = Pattern.compile("```java\n(.*?)```", Pattern.DOTALL);
    private static final Pattern CALL = Pattern.compile("desk\\.([a-z]+)\\(([-0-9, ]*)\\); +// (-?[0-9]+|true|false)(:.*)?");
    private static final String MAKING = "PacketFilter desk = new PacketFilter();";

    public static void main(String[] args) throws Exception {
        String readme = Files.readString(Path.of("README.md"));
        Matcher examples = EXAMPLE.matcher(readme);
        int count = 0;
        while (examples.find()) {
            example(examples.group(1).split("\n"));
            count++;
        }
        checks.due("there are examples", count > 0, true);
        for (Method each : PacketFilter.class.getDeclaredMethods()) {
            if (Modifier.isPublic(each.getModifiers())) checks.due("names " + each.getName(), readme.contains("`" + each.getName()), true);
        }
        for (String each : List.of("new PacketFilter()", "`BAD`", "`FULL`", ".ci/run")) checks.due("names " + each, readme.contains(each), true);
        try (var files = Files.list(Path.of("src/test/java"))) {
            for (Path each : files.toList()) {
                String name = each.getFileName().toString().replace(".java", "");
                checks.due("names " + name, readme.contains("`" + name + "`"), true);
            }
        }
        checks.end();
    }

    private static void example(String[] lines) throws Exception {
        checks.due("an example begins with a new object: " + lines[0], lines[0].equals(MAKING), true);
        PacketFilter desk = new PacketFilter();
        for (int k = 1; k < lines.length; k++) {
            Matcher call = CALL.matcher(lines[k]);
            boolean isCall = call.matches();
            checks.due("a call with its answer: " + lines[k], isCall, true);
            if (isCall) checks.due(lines[k], answer(desk, call.group(1), call.group(2)), call.group(3));
        }
    }

    private static String answer(PacketFilter desk, String name, String arguments) throws Exception {
        Object[] numbers = arguments.isEmpty() ? new Object[0] : Arrays.stream(arguments.split(", *")).map(Integer::valueOf).toArray();
        Class<?>[] types = new Class<?>[numbers.length];
        Arrays.fill(types, int.class);
        return "" + PacketFilter.class.getMethod(name, types).invoke(desk, numbers);
    }
}
