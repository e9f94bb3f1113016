import java.io.IOException;
import java.nio.file.Files;
import java.nio.file.Path;
import java.util.regex.Matcher;
import java.util.regex.Pattern;

/** What of LANGUAGE.md can be seen in the text of the program; it runs in the project's folder, as .ci/run does. */
public final class LanguageTest {
    private static final Check CHECK = new Check("LanguageTest");

    public static void main(String[] args) throws IOException {
        String program = Files.readString(Path.of("src/main/java/EmbargoDesk.java"));
        String code = program.replaceAll("(?s)/\\*.*?\\*/", "").replaceAll("//[^\n]*", "").replaceAll("'.'", "' '");
        String[] words = {"throw", "throws", "try", "catch", "synchronized", "assert", "package", "import", "record",
            "yield", "instanceof", "hashCode", "toString", "equals", "double", "float", "var", "protected", "Object",
            "Exception", "native", "volatile", "transient", "lambda", "finally", "char\\[\\]\\[\\]"};
        for (String word : words) {
            CHECK.holds("no " + word, !Pattern.compile("\\b" + word + "\\b").matcher(code).find());
        }
        CHECK.holds("no lambda", !code.contains("->"));
        CHECK.holds("no method reference", !code.contains("::"));
        CHECK.holds("no text", !code.contains("\""));
        CHECK.holds("no annotation", !code.contains("@"));
        Matcher library = Pattern.compile("\\b(System|Arrays|Math|Integer|Long|String|StringBuilder)\\b(\\.\\w+)?").matcher(code);
        while (library.find()) {
            CHECK.holds(library.group() + " is in the library",
                library.group().matches("System\\.arraycopy|Math\\.(min|max)"));
        }
        Matcher fields = Pattern.compile("static (?!final)(?!int \\w+\\(|boolean \\w+\\(|void \\w+\\(|class)").matcher(code);
        CHECK.holds("static fields are final", !fields.find());
        CHECK.holds("no static initialiser", !Pattern.compile("static\\s*\\{").matcher(code).find());
        lengths(code);
        CHECK.end();
    }

    /** A method's text goes from its first line to the brace in the column where that line begins. */
    private static void lengths(String code) {
        String[] lines = code.split("\n");
        for (int first = 0; first < lines.length; first++) {
            Matcher head = Pattern.compile("^( {8}| {4})(?! )[\\w\\[\\] ]+\\(.*\\{$").matcher(lines[first]);
            if (!head.find() || lines[first].matches(" *(for|if|while|switch|return) .*")) {
                continue;
            }
            int last = first;
            while (last < lines.length && !lines[last].equals(head.group(1) + "}")) {
                last++;
            }
            CHECK.holds(lines[first].trim() + " is short", last - first < 60);
            CHECK.holds(lines[first].trim() + " takes at most seven", lines[first].split(",").length <= 7);
        }
    }
}
