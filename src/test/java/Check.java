import java.util.List;
import java.util.function.Consumer;
import java.util.function.Predicate;
import java.util.function.ToIntFunction;

/** Counts and prints the answers of a test that are not as due. */
final class Check {
    private int wrong;
    private int asked;
    private String about = "";

    /** Says which promise or rule the next answers belong to. */
    void about(String words) {
        about = words;
    }

    void due(String call, long got, long want) {
        asked++;
        if (got != want) {
            wrong++;
            System.out.println(about + ": " + call + " answered " + got + ", due is " + want);
        }
    }

    void due(String call, boolean got, boolean want) {
        due(call, got ? 1 : 0, want ? 1 : 0);
    }

    void holds(String what, boolean so) {
        due(what, so, true);
    }

    /** The call answers false and changes nothing. */
    void refused(String call, Desk desk, Predicate<Desk> made) {
        refused(call, desk, d -> made.test(d) ? 1 : 0, 0);
    }

    /** The call answers what is wanted and changes nothing. */
    void refused(String call, Desk desk, ToIntFunction<Desk> made, int want) {
        List<String> before = Probe.of(desk::again);
        due(call, made.applyAsInt(desk), want);
        alike(call, before, Probe.of(desk::again));
    }

    /** The questions change nothing. */
    void unchangedBy(String questions, Desk desk, Consumer<Desk> made) {
        List<String> before = Probe.of(desk::again);
        List<String> after = Probe.of(() -> {
            Desk twin = desk.again();
            made.accept(twin);
            return twin;
        });
        alike(questions, before, after);
    }

    private void alike(String call, List<String> before, List<String> after) {
        asked++;
        if (before.equals(after)) {
            return;
        }
        wrong++;
        int i = 0;
        while (i < before.size() && i < after.size() && before.get(i).equals(after.get(i))) {
            i++;
        }
        System.out.println(about + ": " + call + " changed something: "
                + (i < before.size() ? before.get(i) : "nothing more") + " before, "
                + (i < after.size() ? after.get(i) : "nothing more") + " after");
    }

    void finish() {
        System.out.println(asked + " answers, " + wrong + " not as due");
        if (wrong != 0) {
            System.exit(1);
        }
    }
}
