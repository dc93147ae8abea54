import java.lang.reflect.Constructor;
import java.lang.reflect.Field;
import java.lang.reflect.Method;
import java.lang.reflect.Modifier;
import java.util.Arrays;
import java.util.Set;
import java.util.TreeSet;

/** The public face of the document, the constants' values, and what LANGUAGE.md says of members. */
public final class FaceTest {
    private static final Check CHECK = new Check();
    private static final String[] METHODS = {
        "boolean type(char)", "void wipe()", "int read()", "int nodes()", "int attributes(int)",
        "int reach(int)", "boolean set(int,int)", "int value(int)", "int culprit(int)",
        "boolean objective(int,boolean)", "boolean require(boolean,int,int)", "boolean withdraw(int)",
        "int compile()", "int rows(int)", "int entry(int,int)", "int column(int)", "boolean lift()",
        "boolean fits()", "long cost()", "boolean feasible()",
    };

    public static void main(String[] args) {
        constants();
        methods();
        members();
        CHECK.finish();
    }

    private static void constants() {
        CHECK.about("the constants");
        CHECK.due("ABSENT", ConeForms.ABSENT, -100);
        CHECK.due("LARGE", ConeForms.LARGE, -101);
        CHECK.due("FULL", ConeForms.FULL, -102);
    }

    private static void methods() {
        CHECK.about("the face");
        Set<String> found = new TreeSet<>();
        for (Method method : ConeForms.class.getDeclaredMethods()) {
            if (Modifier.isPublic(method.getModifiers())) {
                String parameters = Arrays.toString(method.getParameterTypes()).replaceAll("[\\[\\] ]", "");
                found.add(method.getReturnType() + " " + method.getName() + "(" + parameters + ")");
            }
        }
        CHECK.holds("the public methods are the document's, not " + found,
                found.equals(new TreeSet<>(Arrays.asList(METHODS))));
        CHECK.holds("the class is final", Modifier.isFinal(ConeForms.class.getModifiers()));
    }

    private static void members() {
        CHECK.about("rule 1 of LANGUAGE.md");
        Set<String> constants = new TreeSet<>();
        for (Field field : ConeForms.class.getDeclaredFields()) {
            if (!Modifier.isPrivate(field.getModifiers())) {
                constants.add(field.getName());
            }
        }
        CHECK.holds("the constants alone are not private",
                constants.equals(new TreeSet<>(Arrays.asList("ABSENT", "LARGE", "FULL"))));
        Constructor<?>[] constructors = ConeForms.class.getDeclaredConstructors();
        CHECK.due("constructors", constructors.length, 1);
        CHECK.holds("the constructor is public", Modifier.isPublic(constructors[0].getModifiers()));
        for (Class<?> inside : ConeForms.class.getDeclaredClasses()) {
            CHECK.holds(inside.getName() + " is static", Modifier.isStatic(inside.getModifiers()));
            CHECK.holds(inside.getName() + " is not public", !Modifier.isPublic(inside.getModifiers()));
            noPublicName(inside);
        }
    }

    private static void noPublicName(Class<?> inside) {
        for (Method method : inside.getDeclaredMethods()) {
            for (String due : METHODS) {
                CHECK.holds(method + " bears no name of the face", !due.contains(" " + method.getName() + "("));
            }
        }
    }
}
