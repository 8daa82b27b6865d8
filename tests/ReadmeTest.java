import java.io.IOException;
import java.lang.reflect.Method;
import java.lang.reflect.Modifier;
import java.nio.file.Files;
import java.nio.file.Path;
import java.util.ArrayList;
import java.util.List;
import java.util.Set;
import java.util.TreeSet;
import java.util.regex.Matcher;
import java.util.regex.Pattern;
import java.util.stream.Stream;

/** README.md: what it says is so. */
public final class ReadmeTest {
    private static final Check CHECK = new Check();

    private final List<String> lines = Files.readAllLines(Path.of("README.md"));

    private ReadmeTest() throws IOException {
    }

    public static void main(String[] args) throws IOException {
        ReadmeTest readme = new ReadmeTest();
        readme.example();
        readme.calls();
        readme.tests();
        CHECK.end();
    }

    private List<String> linesOf(Pattern pattern) {
        List<String> found = new ArrayList<>();
        for (String line : lines) {
            Matcher matcher = pattern.matcher(line);
            if (matcher.find()) {
                found.add(matcher.group(1) + " | " + matcher.group(2));
            }
        }
        return found;
    }

    private static String shown(String call, Object answer) {
        return call + " | " + (answer instanceof String ? "\"" + answer + "\"" : answer);
    }

    /** Each call of the example, with what it truly answers, in its order. */
    private void example() {
        Raywalk walk = new Raywalk();
        List<String> want = List.of(
                shown("put(0, 3, 4, 0)", walk.put(0, 3, 4, 0)),
                shown("grade(0, 4)", walk.grade(0, 4)),
                shown("make(0, 2)", walk.make(0, 2)),
                shown("across(0)", walk.across(0)),
                shown("up(0)", walk.up(0)),
                shown("order(0, 1, 0)", walk.order(0, 1, 0)),
                shown("side(0, 1)", walk.side(0, 1)),
                shown("stretch(0, 100)", walk.stretch(0, 100)),
                shown("addPlace(5, 0)", walk.addPlace(5, 0)),
                shown("addPlace(0, 5)", walk.addPlace(0, 5)),
                shown("addPlace(-5, -5)", walk.addPlace(-5, -5)),
                shown("hullText()", walk.hullText()),
                shown("roundText()", walk.roundText()),
                shown("isStar()", walk.isStar()),
                shown("rounds()", walk.rounds()),
                shown("centre(20, 20)", walk.centre(20, 20)),
                shown("rounds()", walk.rounds()),
                shown("house(2)", walk.house(2)));
        CHECK.due("the example", linesOf(Pattern.compile("^walk\\.(.*); +// ([^:]*)")), want);
    }

    /** Each call once, with as many arguments as it takes and the letters of what it throws. */
    private void calls() {
        Set<String> want = new TreeSet<>();
        for (Method method : Raywalk.class.getDeclaredMethods()) {
            if (Modifier.isPublic(method.getModifiers())) {
                StringBuilder letters = new StringBuilder();
                for (Class<?> thrown : method.getExceptionTypes()) {
                    letters.append(thrown == IndexOutOfBoundsException.class ? "I" : "A");
                }
                want.add(method.getName() + " takes " + method.getParameterCount() + " throws " + letters);
            }
        }
        List<String> rows = linesOf(Pattern.compile("^\\| `(\\w+\\([^)]*\\))` \\|.*\\|([ IA]*)\\|$"));
        Set<String> got = new TreeSet<>();
        for (String row : rows) {
            String name = row.substring(0, row.indexOf('('));
            String arguments = row.substring(row.indexOf('(') + 1, row.indexOf(')'));
            int count = arguments.isEmpty() ? 0 : arguments.split(", ").length;
            got.add(name + " takes " + count + " throws " + row.substring(row.indexOf(')') + 1).replaceAll("[ |]", ""));
        }
        CHECK.due("the table of calls", got, want);
        CHECK.due("rows of it", rows.size(), want.size());
    }

    /** Each test of the project is told, and no other one. */
    private void tests() throws IOException {
        Set<String> told = new TreeSet<>();
        Matcher names = Pattern.compile("`(\\w+Test)`").matcher(String.join("\n", lines));
        while (names.find()) {
            told.add(names.group(1));
        }
        Set<String> there = new TreeSet<>();
        try (Stream<Path> files = Files.list(Path.of("tests"))) {
            files.map(file -> file.getFileName().toString()).filter(name -> name.endsWith("Test.java"))
                    .forEach(name -> there.add(name.substring(0, name.length() - ".java".length())));
        }
        CHECK.due("tests told", told, there);
    }
}
