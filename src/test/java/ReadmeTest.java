import java.io.IOException;
import java.lang.reflect.Method;
import java.nio.file.DirectoryStream;
import java.nio.file.Files;
import java.nio.file.Path;
import java.util.regex.Matcher;
import java.util.regex.Pattern;

/** README.md keeps to the class: its example is run call by call; it runs in the project's folder, as .ci/run does. */
public final class ReadmeTest {
    private static final Check CHECK = new Check("ReadmeTest");

    public static void main(String[] args) throws IOException, ReflectiveOperationException {
        String readme = Files.readString(Path.of("README.md"));
        example(readme);
        constants(readme);
        tests(readme);
        CHECK.end();
    }

    private static void example(String readme) throws ReflectiveOperationException {
        Matcher block = Pattern.compile("(?s)```java\n(.*?)```").matcher(readme);
        CHECK.holds("there is an example", block.find());
        Pattern typed = Pattern.compile("for \\(char sign : \"(.*)\"\\.toCharArray\\(\\)\\) \\{");
        Pattern call = Pattern.compile("^desk\\.(\\w+)\\((.*?)\\); *// (-?\\d+):");
        EmbargoDesk desk = new EmbargoDesk();
        int calls = 0;
        for (String line : block.group(1).split("\n")) {
            Matcher signs = typed.matcher(line);
            Matcher parts = call.matcher(line);
            if (signs.find()) {
                Desks.type(desk, signs.group(1));
            } else if (parts.find()) {
                CHECK.due(line, answer(desk, parts.group(1), parts.group(2)), Integer.parseInt(parts.group(3)));
                calls++;
            } else {
                CHECK.holds("not looked at: " + line,
                    line.matches("EmbargoDesk desk = .*| {4}desk\\.type\\(sign\\);.*|\\}"));
            }
        }
        CHECK.holds("the example has calls", calls > 10);
    }

    private static int answer(EmbargoDesk desk, String name, String arguments) throws ReflectiveOperationException {
        for (Method method : EmbargoDesk.class.getMethods()) {
            if (!method.getName().equals(name)) {
                continue;
            }
            String[] texts = arguments.isEmpty() ? new String[0] : arguments.split(", ");
            Object[] values = new Object[texts.length];
            for (int i = 0; i < texts.length; i++) {
                boolean sign = texts[i].charAt(0) == '\'';
                values[i] = sign ? (Object) texts[i].charAt(1) : (Object) Integer.valueOf(texts[i]);
            }
            return (Integer) method.invoke(desk, values);
        }
        throw new NoSuchMethodException(name);
    }

    private static void constants(String readme) throws ReflectiveOperationException {
        Matcher row = Pattern.compile("\\| `([A-Z_]+)` \\| (-\\d) \\|").matcher(readme);
        int rows = 0;
        while (row.find()) {
            int value = EmbargoDesk.class.getField(row.group(1)).getInt(null);
            CHECK.due(row.group(1), value, Integer.parseInt(row.group(2)));
            rows++;
        }
        CHECK.due("constants", rows, 5);
    }

    private static void tests(String readme) throws IOException {
        try (DirectoryStream<Path> files = Files.newDirectoryStream(Path.of("src/test/java"), "*Test.java")) {
            for (Path file : files) {
                String name = file.getFileName().toString().replace(".java", "");
                CHECK.holds(name + " is named", Pattern.compile("\\b" + name + "\\b").matcher(readme).find());
            }
        }
    }
}
