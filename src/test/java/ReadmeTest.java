import java.io.IOException;
import java.io.UncheckedIOException;
import java.lang.reflect.Field;
import java.lang.reflect.Method;
import java.lang.reflect.Modifier;
import java.nio.file.Files;
import java.nio.file.Path;
import java.util.ArrayList;
import java.util.LinkedHashMap;
import java.util.List;
import java.util.Map;
import java.util.Set;
import java.util.TreeSet;
import java.util.regex.Matcher;
import java.util.regex.Pattern;

/** README.md holds for the project as it stands. */
public final class ReadmeTest {
    private static final Check CHECK = new Check();
    private static final Path TESTS = Path.of("src/test/java");
    private static final String README = textOf(Path.of("README.md"));

    public static void main(String[] args) throws ReflectiveOperationException {
        example();
        calls();
        constants();
        parts();
        classes();
        tests();
        CHECK.finish();
    }

    private static String textOf(Path path) {
        try {
            return Files.readString(path);
        } catch (IOException fault) {
            throw new UncheckedIOException(fault);
        }
    }

    /** The lines of README.md's example stand here too, and its comments begin with the answers. */
    private static void example() {
        ConeForms desk = new ConeForms();
        for (char c : "A(x-3)".toCharArray()) {
            desk.type(c);
        }
        int node = desk.read();
        boolean taken = desk.objective(node, true);
        boolean added = desk.require(false, 1, 0);
        int columns = desk.compile();
        int bounds = desk.rows(1);
        int number = desk.entry(1, 0);
        int constant = desk.entry(1, -1);
        boolean given = desk.set(0, 5);
        boolean tooLow = desk.fits();
        boolean lifted = desk.lift();
        boolean fits = desk.fits();
        long cost = desk.cost();
        boolean feasible = desk.feasible();
        Map<String, String> answers = new LinkedHashMap<>();
        answers.put("node", String.valueOf(node));
        answers.put("taken", String.valueOf(taken));
        answers.put("added", String.valueOf(added));
        answers.put("columns", String.valueOf(columns));
        answers.put("bounds", String.valueOf(bounds));
        answers.put("number", String.valueOf(number));
        answers.put("constant", String.valueOf(constant));
        answers.put("given", String.valueOf(given));
        answers.put("tooLow", String.valueOf(tooLow));
        answers.put("lifted", String.valueOf(lifted));
        answers.put("fits", String.valueOf(fits));
        answers.put("cost", String.valueOf(cost));
        answers.put("feasible", String.valueOf(feasible));
        compareExample(answers);
    }

    private static void compareExample(Map<String, String> answers) {
        CHECK.about("README.md's example");
        String here = textOf(TESTS.resolve("ReadmeTest.java"));
        Map<String, String> told = new LinkedHashMap<>();
        int from = README.indexOf("```java\n") + "```java\n".length();
        int place = 0;
        for (String line : README.substring(from, README.indexOf("```", from)).split("\n")) {
            String[] halves = line.split("//");
            place = here.indexOf(halves[0].strip(), place);
            CHECK.holds("stands in this test, in its order: " + line, place >= 0);
            if (halves.length > 1) {
                told.put(line.split(" ")[1], halves[1].strip().split("[,: ]")[0]);
            }
        }
        CHECK.holds("its answers are " + answers + ", not " + told, answers.equals(told));
    }

    /** The first cells of all tables, without the marks of code. */
    private static List<String> firstCells() {
        List<String> cells = new ArrayList<>();
        for (String line : README.split("\n")) {
            if (line.startsWith("| `")) {
                cells.add(line.split("\\|")[1].replace("`", "").strip());
            }
        }
        return cells;
    }

    private static void calls() {
        CHECK.about("README.md's tables of calls");
        Set<String> due = new TreeSet<>();
        for (Method method : ConeForms.class.getDeclaredMethods()) {
            if (Modifier.isPublic(method.getModifiers())) {
                due.add(method.getName() + "(" + typesOf(method) + ")");
            }
        }
        Set<String> told = new TreeSet<>();
        for (String cell : firstCells()) {
            if (cell.matches("[a-z]{3,}\\(.*\\)")) {
                told.add(cell.replaceAll(" \\w+([,)])", "$1"));
            }
        }
        CHECK.holds("tell of " + due + ", not of " + told, due.equals(told));
    }

    private static String typesOf(Method method) {
        List<String> types = new ArrayList<>();
        for (Class<?> type : method.getParameterTypes()) {
            types.add(type.getName());
        }
        return String.join(", ", types);
    }

    private static void constants() throws ReflectiveOperationException {
        CHECK.about("README.md's table of constants");
        for (Field field : ConeForms.class.getDeclaredFields()) {
            if (Modifier.isPublic(field.getModifiers())) {
                String row = "| `" + field.getName() + "` | " + field.getInt(null) + " | ";
                CHECK.holds("has " + row, README.contains(row));
            }
        }
    }

    /** A node with each curvature and one with each blame, taken apart as the table says. */
    private static void parts() {
        CHECK.about("README.md's table of what attributes holds");
        partsOf("0", 0, 0, 0, 0);
        partsOf("p", 1, 0, 0, 0);
        partsOf("q", 0, 1, 0, 0);
        partsOf("x", 1, 1, 1, 0);
        partsOf("A(x)", 1, 0, 2, 0);
        partsOf("-S(x)", 0, 1, 3, 0);
        partsOf("A(x)-S(y)", 1, 1, 4, 2);
        partsOf("r*A(x)", 1, 1, 4, 2);
        partsOf("A(x)*r", 1, 1, 4, 1);
        partsOf("P(x,y,-A(z))", 1, 1, 4, 3);
        partsOf("x*y", 1, 1, 4, 4);
        partsOf("-(x*y)", 1, 1, 4, 0);
    }

    private static void partsOf(String text, int above, int below, int curvature, int blame) {
        Desk desk = new Desk();
        int n = desk.attributes(desk.read(text));
        CHECK.due("n % 2 of " + text, n % 2, above);
        CHECK.due("n / 2 % 2 of " + text, n / 2 % 2, below);
        CHECK.due("n / 4 % 8 of " + text, n / 4 % 8, curvature);
        CHECK.due("n / 32 of " + text, n / 32, blame);
        CHECK.holds("the table has the parts",
                firstCells().containsAll(List.of("n % 2", "n / 2 % 2", "n / 4 % 8", "n / 32")));
    }

    private static void classes() {
        CHECK.about("README.md's table of classes");
        for (Class<?> inside : ConeForms.class.getDeclaredClasses()) {
            boolean told = false;
            for (String cell : firstCells()) {
                told |= List.of(cell.split(", ")).contains(inside.getSimpleName());
            }
            CHECK.holds("tells of " + inside.getSimpleName(), told);
        }
    }

    private static void tests() {
        CHECK.about("README.md's table of tests");
        Set<String> due = new TreeSet<>();
        for (String name : TESTS.toFile().list()) {
            String bare = name.replace(".java", "");
            if (bare.endsWith("Test")) {
                due.add(bare);
            }
            CHECK.holds("the page names " + bare, README.contains("`" + bare + "`"));
        }
        Set<String> told = new TreeSet<>();
        Matcher names = Pattern.compile("`(\\w+Test)`").matcher(README);
        while (names.find()) {
            told.add(names.group(1));
        }
        told.remove("EdgesTest");
        CHECK.holds("tells of " + due + ", not of " + told, due.equals(told));
    }
}
