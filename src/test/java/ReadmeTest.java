import java.io.IOException;
import java.lang.reflect.Method;
import java.lang.reflect.Modifier;
import java.nio.file.Files;
import java.nio.file.Path;
import java.util.List;
import java.util.regex.Matcher;
import java.util.regex.Pattern;
import java.util.stream.Stream;

/** README.md says how the class is used and how its tests are run: its rows answer what they say. */
public final class ReadmeTest {
    private static final Pattern BLOCK = Pattern.compile("(?s)```java\n(.*?)```");
    private static final Pattern NEW = Pattern.compile("ColdHouse house = new ColdHouse\\(\\);.*");
    private static final Pattern ROW = Pattern.compile("house\\.(\\w+)\\(([-\\d, ]*)\\); +// (-?\\w+): .*");
    private static final Pattern LETTERS = Pattern.compile("for \\(char letter : \"(\\S+)\"\\.toCharArray\\(\\)\\) \\{");
    private static final List<String> OF_THE_LETTERS = List.of("house.write(letter);", "}");

    public static void main(String[] args) throws IOException {
        String text = Files.readString(Path.of("README.md"));
        Due.is("blocks of rows", blocks(text), 2);
        namesEachCall(text);
        namesEachTest(text);
        Due.isTrue("how the tests are run", text.contains("`.ci/run` builds the class and runs every test"));
        Due.end();
    }

    private static int blocks(String text) {
        int blocks = 0;
        Matcher block = BLOCK.matcher(text);
        while (block.find()) {
            String[] rows = block.group(1).split("\n");
            if (NEW.matcher(rows[0]).matches()) {
                blocks++;
                Calls.hold("THE TEXT is empty", runOf(rows));
            }
        }
        return blocks;
    }

    private static String runOf(String[] rows) {
        StringBuilder run = new StringBuilder();
        for (int k = 1; k < rows.length; k++) {
            Matcher row = ROW.matcher(rows[k]);
            Matcher letters = LETTERS.matcher(rows[k]);
            if (row.matches()) {
                run.append(row.group(1)).append('(').append(row.group(2).replace(" ", "")).append(")=").append(row.group(3)).append(' ');
            } else if (letters.matches()) {
                run.append('\'').append(letters.group(1)).append("' ");
            } else {
                Due.isTrue("a row that can be tried: " + rows[k], OF_THE_LETTERS.contains(rows[k].trim()));
            }
        }
        return run.toString();
    }

    private static void namesEachCall(String text) {
        for (Method method : ColdHouse.class.getDeclaredMethods()) {
            if (Modifier.isPublic(method.getModifiers())) {
                Due.isTrue("the call " + method.getName(), text.contains("`" + method.getName() + "("));
            }
        }
    }

    private static void namesEachTest(String text) throws IOException {
        try (Stream<Path> files = Files.list(Path.of("src/test/java"))) {
            for (Path file : (Iterable<Path>) files::iterator) {
                String name = file.getFileName().toString().replace(".java", "");
                Due.isTrue("the test " + name, !name.endsWith("Test") || text.contains("| `" + name + "` |"));
            }
        }
    }
}
