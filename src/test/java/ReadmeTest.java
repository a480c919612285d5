import java.io.IOException;
import java.lang.reflect.Method;
import java.nio.file.Files;
import java.nio.file.Path;
import java.util.ArrayList;
import java.util.HashSet;
import java.util.List;
import java.util.Set;
import java.util.regex.Matcher;
import java.util.regex.Pattern;
import java.util.stream.Stream;

/** That README.md is right: its calls, made in their order on one object, answer what stands behind them. */
public final class ReadmeTest extends Checks {
    private static final Path README = Path.of("README.md");
    private static final Path TESTS = Path.of("src/test/java");
    private static final Pattern CODE = Pattern.compile("(?s)```java\n(.*?)```");
    private static final Pattern EXAMPLE = Pattern.compile("(.*?); +// (-?\\d+): .+");
    private static final Pattern TELL = Pattern.compile("tell\\(h, \"([^\"]*)\"\\)");
    private static final Pattern CALL = Pattern.compile("h\\.((\\w+)\\([-0-9, ]*\\))");
    private static final Pattern SECTION = Pattern.compile("(?m)^## .*$");

    private static final Set<String> called = new HashSet<>();

    /** The rows of code that begin with a call; those of tell() itself are set in, and are no examples. */
    private static List<String> examples(String readme) {
        List<String> rows = new ArrayList<>();
        Matcher code = CODE.matcher(readme);
        while (code.find()) {
            code.group(1).lines().filter(row -> row.startsWith("h.") || row.startsWith("tell(")).forEach(rows::add);
        }
        return rows;
    }

    private static void examplesAreAnswered(String readme) {
        HungPictures h = new HungPictures();
        for (String row : examples(readme)) {
            Matcher example = EXAMPLE.matcher(row);
            if (example.matches()) {
                due(row, answer(h, example.group(1)), Integer.parseInt(example.group(2)));
            } else {
                tellWrong("no answer stands behind " + row);
            }
        }
    }

    private static int answer(HungPictures h, String code) {
        Matcher tell = TELL.matcher(code);
        if (tell.matches()) {
            called.add("type");
            called.add("tells");
            tell.group(1).chars().forEach(letter -> Run.answer(h, "type(" + letter + ")"));
            return Run.answer(h, "tells()");
        }
        Matcher call = CALL.matcher(code);
        if (!call.matches()) {
            tellWrong(code + " is no call");
            return NO;
        }
        called.add(call.group(2));
        return Run.answer(h, call.group(1));
    }

    private static void everyCallIsShown() {
        for (Method m : HungPictures.class.getMethods()) {
            if (m.getDeclaringClass() == HungPictures.class && !called.contains(m.getName())) {
                tellWrong("no example shows " + m.getName() + "()");
            }
        }
    }

    private static void constantsAreRight(String readme) {
        dueConstant(readme, "| `BAD` | %d |", HungPictures.BAD);
        dueConstant(readme, "| `STATE` | %d |", HungPictures.STATE);
        dueConstant(readme, "| `FULL` | %d |", HungPictures.FULL);
        dueConstant(readme, "| `NO` | %d |", HungPictures.NO);
        dueConstant(readme, "`NONE` (%d)", HungPictures.NONE);
    }

    private static void dueConstant(String readme, String words, int value) {
        if (!readme.contains(words.formatted(value))) {
            tellWrong(words.formatted(value) + " is not there");
        }
    }

    private static void everyTestIsNamed(String readme) {
        Matcher section = SECTION.matcher(readme);
        Set<String> sections = new HashSet<>();
        while (section.find()) {
            sections.add(section.group());
        }
        if (!sections.containsAll(Set.of("## How to use it", "## How to run the tests")) || !readme.contains(".ci/run")) {
            tellWrong("it does not say how to use the class and how to run its tests");
        }
        try (Stream<Path> files = Files.list(TESTS)) {
            files.map(file -> file.getFileName().toString().replace(".java", ""))
                    .filter(name -> !readme.contains("`" + name + "`"))
                    .forEach(name -> tellWrong("it does not name the test " + name));
        } catch (IOException e) {
            tellWrong(TESTS + " can't be read");
        }
    }

    public static void main(String[] args) throws IOException {
        String readme = Files.readString(README);
        test("README.md, its examples", () -> examplesAreAnswered(readme));
        test("README.md, its calls", ReadmeTest::everyCallIsShown);
        test("README.md, its constants", () -> constantsAreRight(readme));
        test("README.md, its tests", () -> everyTestIsNamed(readme));
        end();
    }
}
