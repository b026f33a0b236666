import java.io.IOException;
import java.lang.reflect.Field;
import java.lang.reflect.Modifier;
import java.nio.file.Files;
import java.nio.file.Path;
import java.util.Set;
import java.util.TreeSet;
import java.util.regex.Matcher;
import java.util.regex.Pattern;
import java.util.stream.Stream;

/** README.md: its calls answer what it says, and it leaves nothing out. Runs in the project's folder. */
public final class ReadmeTest {
    private static final Pattern CALL = Pattern.compile("x\\.(\\w+)\\((.*?)\\); +// (-?[0-9]+)\\b.*");
    private static final Pattern CONSTANT = Pattern.compile("`([A-Z]+)`[^-]*(-[0-9]+)\\b.*");
    private static final Pattern TEST = Pattern.compile("\\| (\\w+Test) \\|.*");

    public static void main(String[] args) throws Exception {
        String readme = Files.readString(Path.of("README.md"));
        calls(readme);
        constants(readme);
        tests(readme);
        Due.finish();
    }

    private static void calls(String readme) {
        Calls c = new Calls(new RedSkies());
        Set<String> named = new TreeSet<>();
        for (String line : readme.lines().toList()) {
            Matcher call = CALL.matcher(line);
            Due.due("a line of a call says what it answers: " + line, call.matches() ? 1 : 0, line.startsWith("x.") ? 1 : 0);
            if (call.matches()) {
                named.add(call.group(1));
                Due.due(line, c.call(call.group(1), numbers(call.group(2))), Long.parseLong(call.group(3)));
            }
        }
        for (String name : c.names()) {
            Due.due(name + " is in README.md", named.contains(name) ? 1 : 0, 1);
        }
        Due.due("an object is used for at most 512 calls", Math.max(512, c.made), 512);
    }

    private static long[] numbers(String told) {
        return Pattern.compile(", ").splitAsStream(told).filter(one -> !one.isEmpty())
                .mapToLong(one -> Long.decode(one.replace("L", ""))).toArray();
    }

    private static void constants(String readme) throws IllegalAccessException {
        Set<String> named = new TreeSet<>();
        for (String line : readme.lines().toList()) {
            Matcher constant = CONSTANT.matcher(line.replace("| ", ""));
            if (constant.matches()) {
                named.add(constant.group(1) + " " + constant.group(2));
            }
        }
        for (Field field : RedSkies.class.getDeclaredFields()) {
            if (Modifier.isPublic(field.getModifiers())) {
                String due = field.getName() + " " + field.getInt(null);
                Due.due(due + " is in README.md", named.contains(due) ? 1 : 0, 1);
            }
        }
    }

    private static void tests(String readme) throws IOException {
        Set<String> named = new TreeSet<>();
        for (String line : readme.lines().toList()) {
            Matcher test = TEST.matcher(line);
            if (test.matches()) {
                named.add(test.group(1) + ".java");
            }
        }
        Set<String> found = new TreeSet<>();
        try (Stream<Path> files = Files.list(Path.of("src/test/java"))) {
            files.map(file -> file.getFileName().toString()).filter(name -> name.endsWith("Test.java")).forEach(found::add);
        }
        Due.due("the tests are " + found + ", README.md has " + named, named.equals(found) ? 1 : 0, 1);
    }
}
