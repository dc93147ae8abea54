import java.io.IOException;
import java.lang.reflect.Constructor;
import java.lang.reflect.Field;
import java.lang.reflect.Method;
import java.lang.reflect.Modifier;
import java.nio.file.Files;
import java.nio.file.Path;
import java.util.ArrayList;
import java.util.Arrays;
import java.util.List;
import java.util.Set;
import java.util.regex.Pattern;

/** The rules of LANGUAGE.md, as far as a look at the text and the members of the class can tell. */
public final class LanguageTest {
    private static final Check CHECK = new Check();
    private static final Path PROGRAM = Path.of("src/main/java/ConeForms.java");
    private static final int METHOD_LINES = 60;
    private static final int PARAMETERS = 7;
    private static final int CLASSES = 12;
    private static final int FIELDS = 20;
    private static final Set<Class<?>> CONSTANTS = Set.of(int.class, long.class, boolean.class, char.class,
            String.class, int[].class, long[].class, char[].class, byte[].class);

    public static void main(String[] args) throws IOException {
        List<String> code = code();
        words(code);
        room(code);
        lengths(code);
        for (Class<?> one : classes()) {
            members(one);
        }
        CHECK.finish();
    }

    /** The lines of the program without its comments. */
    private static List<String> code() throws IOException {
        String text = Files.readString(PROGRAM);
        text = Pattern.compile("/\\*.*?\\*/", Pattern.DOTALL).matcher(text).replaceAll("");
        return Arrays.asList(text.replaceAll("//.*", "").split("\n"));
    }

    private static List<Class<?>> classes() {
        List<Class<?>> all = new ArrayList<>(Arrays.asList(ConeForms.class.getDeclaredClasses()));
        all.add(ConeForms.class);
        CHECK.about("rule 11, 'at most some twelve classes'");
        CHECK.holds(all.size() + " classes", all.size() <= CLASSES);
        return all;
    }

    private static void words(List<String> code) {
        CHECK.about("rules 2, 4 and 6, what the program has not");
        Pattern none = Pattern.compile("\\b(package|import|throws?|try|catch|finally|synchronized|assert|native"
                + "|volatile|transient|protected|Object|Thread|java|javax)\\b|->|::|\\w+Exact\\b");
        Set<String> listed = Set.of("Math.max", "Math.min", "Math.abs", "System.arraycopy", "Arrays.fill");
        Pattern library = Pattern.compile("\\b(Math|System|Arrays|Integer|Long|Character|Boolean)\\.(\\w+)");
        for (String line : code) {
            CHECK.holds("none of these words in:" + line, !none.matcher(line).find());
            library.matcher(line).results().forEach(use -> CHECK.holds("rule 4 lists " + use.group(),
                    listed.contains(use.group())));
        }
    }

    private static void room(List<String> code) {
        CHECK.about("README.md, 'It makes all its room when it is made; its calls make no more'");
        String field = " +private final [\\w\\[\\]]+ \\w+ = new .*";
        String inConstructor = " {8}\\w+ = new \\w+\\([\\w, ]*\\);";
        for (String line : code) {
            if (line.contains("new ")) {
                CHECK.holds("made with the object:" + line, line.matches(field) || line.matches(inConstructor));
            }
        }
    }

    private static void lengths(List<String> code) {
        CHECK.about("rule 11, 'Methods stay short (some sixty lines)'");
        int begun = 0;
        for (int i = 0; i < code.size(); i++) {
            String line = code.get(i);
            if (line.matches("( {4}| {8})(public|private) .*\\) \\{")) {
                begun = i;
            } else if (line.matches("( {4}| {8})}")) {
                CHECK.holds("the end of" + code.get(begun), i - begun < METHOD_LINES);
            }
        }
    }

    private static void members(Class<?> one) {
        int fields = 0;
        for (Field field : one.getDeclaredFields()) {
            boolean fixed = Modifier.isStatic(field.getModifiers());
            fields += fixed ? 0 : 1;
            CHECK.about("rule 5, static fields");
            CHECK.holds(field + " is a constant", !fixed || Modifier.isFinal(field.getModifiers())
                    && CONSTANTS.contains(field.getType()));
        }
        CHECK.about("rule 11, 'a class some twenty fields beside its constants'");
        CHECK.holds(one + " has " + fields, fields <= FIELDS);
        CHECK.about("rule 11, 'A method takes at most seven parameters'");
        for (Method method : one.getDeclaredMethods()) {
            CHECK.holds(method.toString(), method.getParameterCount() <= PARAMETERS);
        }
        for (Constructor<?> constructor : one.getDeclaredConstructors()) {
            CHECK.holds(constructor.toString(), constructor.getParameterCount() <= PARAMETERS);
        }
    }
}
