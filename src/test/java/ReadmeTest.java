import java.io.ByteArrayOutputStream;
import java.io.PrintStream;
import java.nio.file.Files;
import java.nio.file.Path;
import java.util.ArrayList;
import java.util.List;
import java.util.regex.Matcher;
import java.util.regex.Pattern;
import java.util.stream.Stream;

/** README.md tells what the document has: every method with its odd answers, a program that runs, every test. */
public final class ReadmeTest {
    private static final int PROMISES = 36;
    private static final String[] ODD = {"NONE", "-2", "false", "Integer.MIN_VALUE", "IndexOutOfBoundsException",
        "NoSuchElementException"};
    private static String readme = "";

    public static void main(String[] args) throws Exception {
        readme = Files.readString(Path.of("README.md"));
        methods(Files.readString(Path.of("../shared/DOC.md")));
        oddAnswers();
        program();
        tests();
        Due.end();
    }

    private static void methods(String doc) {
        Matcher promise = Pattern.compile("## Promise (\\d+): .*\\s+`([^`]+)`: (.*)").matcher(doc);
        int found = 0;
        while (promise.find()) {
            found++;
            Due.is("promise number", Integer.parseInt(promise.group(1)), found);
            method(promise.group(2), promise.group(3));
        }
        Due.is("promises", found, PROMISES);
    }

    private static void method(String signature, String promised) {
        String told = item(signature);
        Due.is("a line for " + signature, told.isEmpty(), false);
        for (String odd : ODD) {
            Due.is(signature + " tells of " + odd, told.contains("`" + odd + "`"), isWordOf(promised, odd));
        }
    }

    /** What is told behind a name: till the next one, a blank line or the end. */
    private static String item(String name) {
        String head = "\n- `" + name + "`";
        int from = readme.indexOf(head);
        if (from < 0) {
            return "";
        }
        Matcher end = Pattern.compile("\n(- |\n|$)").matcher(readme);
        int start = from + head.length();
        return readme.substring(start, end.find(start) ? end.start() : readme.length());
    }

    private static boolean isWordOf(String text, String word) {
        return Pattern.compile("(?<![\\w-])" + Pattern.quote(word) + "(?!\\w)").matcher(text).find();
    }

    private static void oddAnswers() {
        for (String odd : ODD) {
            Due.is("what " + odd + " means", item(odd).length() > 20, true);
        }
    }

    private static void program() throws Exception {
        String source = Files.readString(Path.of("src/test/java/Example.java"));
        String shown = source.substring(source.indexOf("public final class"));
        Due.is("the program is Example.java", readme.contains("```java\n" + shown + "```"), true);
        PrintStream console = System.out;
        ByteArrayOutputStream printed = new ByteArrayOutputStream();
        System.setOut(new PrintStream(printed, true));
        Example.main(new String[0]);
        System.setOut(console);
        String lines = printed.toString().replace(System.lineSeparator(), "\n");
        Due.is("what it prints", readme.contains("```text\n" + lines + "```"), true);
    }

    private static void tests() throws Exception {
        List<String> names = new ArrayList<>();
        try (Stream<Path> files = Files.list(Path.of("src/test/java"))) {
            files.forEach(file -> names.add(file.getFileName().toString()));
        }
        for (String name : names) {
            if (name.endsWith("Test.java")) {
                Due.is("a word about " + name, readme.contains("`" + name.replace(".java", "") + "`"), true);
            }
        }
        Due.is("how they are run", readme.contains("\n    .ci/run\n"), true);
        Due.is("those of others", readme.contains("`../shared/tests`"), true);
    }
}
