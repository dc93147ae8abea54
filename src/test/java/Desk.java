import java.util.ArrayList;
import java.util.List;
import java.util.function.ToLongFunction;

/**
 * A ConeForms under test. It counts the calls, for the document speaks of 512 alone, and keeps those
 * that may change something, so that a second one can be brought to the same state.
 */
final class Desk {
    private static final int CALLS = 512;

    private final ConeForms program = new ConeForms();
    private final List<ToLongFunction<ConeForms>> changes = new ArrayList<>();
    private int calls;

    /** A new desk that has read the texts one after the other. */
    static Desk of(String... texts) {
        Desk desk = new Desk();
        for (String text : texts) {
            if (desk.read(text) < 0) {
                throw new IllegalArgumentException("the test's own line is refused: " + text);
            }
        }
        return desk;
    }

    /** 36 nodes: x, 19 negations one above the other, the numbers 1 to 8 with their 7 sums, A(x). */
    static Desk full() {
        return of("-------------------x", "1+2+3+4+5+6+7+8", "A(x)");
    }

    /**
     * A desk on which a change of anything shows: values, a form with own values, requirements and a
     * line half typed. Its nodes: x, A(x), y, S(y), their sum 4, p, p*x, q, p*x-q, the UNKNOWN x*y 9,
     * the number 30.
     */
    static Desk busy() {
        Desk desk = of("A(x)", "S(y)+#1", "p*x-q", "x*y", "30");
        desk.set(0, -7);
        desk.set(2, 4);
        desk.set(5, 3);
        desk.set(7, -2);
        desk.objective(4, true);
        desk.require(false, 1, 10);
        desk.require(true, 8, 2);
        desk.require(false, 3, 0);
        desk.compile();
        desk.set(1, 12);
        desk.set(3, 5);
        desk.typeAll("u+v*(");
        return desk;
    }

    /** Another desk, with the same calls behind it but for the mere questions. */
    Desk again() {
        Desk twin = new Desk();
        for (ToLongFunction<ConeForms> call : changes) {
            twin.change(call);
        }
        return twin;
    }

    int callsLeft() {
        return CALLS - calls;
    }

    private long ask(ToLongFunction<ConeForms> call) {
        calls++;
        if (calls > CALLS) {
            throw new IllegalStateException("the test itself calls an object more than " + CALLS + " times");
        }
        return call.applyAsLong(program);
    }

    private long change(ToLongFunction<ConeForms> call) {
        changes.add(call);
        return ask(call);
    }

    private boolean asksTrue(ToLongFunction<ConeForms> call) {
        return ask(call) != 0;
    }

    private boolean changesTrue(ToLongFunction<ConeForms> call) {
        return change(call) != 0;
    }

    /** Puts the text at the end of the line. */
    void typeAll(String text) {
        for (int i = 0; i < text.length(); i++) {
            if (!type(text.charAt(i))) {
                throw new IllegalArgumentException("the test's own line can't be typed: " + text);
            }
        }
    }

    /** Reads the text alone. */
    int read(String text) {
        wipe();
        typeAll(text);
        return read();
    }

    boolean type(char c) {
        return changesTrue(p -> p.type(c) ? 1 : 0);
    }

    void wipe() {
        change(p -> {
            p.wipe();
            return 0;
        });
    }

    int read() {
        return (int) change(ConeForms::read);
    }

    int nodes() {
        return (int) ask(ConeForms::nodes);
    }

    int attributes(int k) {
        return (int) ask(p -> p.attributes(k));
    }

    int reach(int k) {
        return (int) ask(p -> p.reach(k));
    }

    boolean set(int k, int v) {
        return changesTrue(p -> p.set(k, v) ? 1 : 0);
    }

    int value(int k) {
        return (int) ask(p -> p.value(k));
    }

    int culprit(int k) {
        return (int) ask(p -> p.culprit(k));
    }

    boolean objective(int k, boolean least) {
        return changesTrue(p -> p.objective(k, least) ? 1 : 0);
    }

    boolean require(boolean same, int a, int b) {
        return changesTrue(p -> p.require(same, a, b) ? 1 : 0);
    }

    boolean withdraw(int j) {
        return changesTrue(p -> p.withdraw(j) ? 1 : 0);
    }

    int compile() {
        return (int) change(ConeForms::compile);
    }

    int rows(int cone) {
        return (int) ask(p -> p.rows(cone));
    }

    int entry(int row, int column) {
        return (int) ask(p -> p.entry(row, column));
    }

    int column(int k) {
        return (int) ask(p -> p.column(k));
    }

    boolean lift() {
        return changesTrue(p -> p.lift() ? 1 : 0);
    }

    boolean fits() {
        return asksTrue(p -> p.fits() ? 1 : 0);
    }

    long cost() {
        return ask(ConeForms::cost);
    }

    boolean feasible() {
        return asksTrue(p -> p.feasible() ? 1 : 0);
    }
}
