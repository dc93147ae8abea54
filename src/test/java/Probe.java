import java.util.ArrayList;
import java.util.List;
import java.util.function.Supplier;

/**
 * All that can be seen of a state. Some of it (the line, the requirements) shows only in calls that
 * change the object, so each part is looked at in a desk of its own, brought to that state anew.
 */
final class Probe {
    private static final int LINE = 20;
    private static final int REQUIREMENTS = 6;

    private final Desk desk;
    private final List<String> seen;

    private Probe(Desk desk, List<String> seen) {
        this.desk = desk;
        this.seen = seen;
    }

    static List<String> of(Supplier<Desk> again) {
        List<String> seen = new ArrayList<>();
        new Probe(again.get(), seen).lookAtNodes();
        new Probe(again.get(), seen).lookAtForm();
        new Probe(again.get(), seen).lookAtLine();
        new Probe(again.get(), seen).lookAtProblem();
        return seen;
    }

    private void note(String call, Object answer) {
        seen.add(call + " = " + answer);
    }

    private void lookAtNodes() {
        int nodes = desk.nodes();
        note("nodes()", nodes);
        for (int k = 0; k < nodes; k++) {
            note("attributes(" + k + ")", desk.attributes(k));
            note("reach(" + k + ")", desk.reach(k));
            note("value(" + k + ")", desk.value(k));
            note("culprit(" + k + ")", desk.culprit(k));
            note("column(" + k + ")", desk.column(k));
        }
    }

    private void lookAtForm() {
        note("fits()", desk.fits());
        note("cost()", desk.cost());
        note("feasible()", desk.feasible());
        int nodes = desk.nodes();
        int columns = 0;
        for (int k = 0; k < nodes; k++) {
            columns = Math.max(columns, desk.column(k) + 1);
        }
        lookAtRows(columns);
        note("lift()", desk.lift());
        note("fits() after lift", desk.fits());
        note("cost() after lift", desk.cost());
    }

    /** As many of the rows as the calls suffice for. */
    private void lookAtRows(int columns) {
        int rows = 0;
        for (int cone = 0; cone < 3; cone++) {
            int lie = desk.rows(cone);
            note("rows(" + cone + ")", lie);
            rows += lie;
        }
        for (int row = -1; row < rows && desk.callsLeft() > columns + 5; row++) {
            for (int column = -1; column < columns; column++) {
                note("entry(" + row + ", " + column + ")", desk.entry(row, column));
            }
        }
    }

    /** What is on the line shows in reading it, and in reading it with as much behind it as it takes. */
    private void lookAtLine() {
        int node = desk.read();
        note("read()", node);
        note("nodes() after read()", desk.nodes());
        if (node >= 0) {
            note("attributes of the line's node", desk.attributes(node));
            note("reach of the line's node", desk.reach(node));
            note("value of the line's node", desk.value(node));
        }
        int typed = 0;
        while (typed <= LINE && desk.type('0')) {
            typed++;
        }
        note("characters that could be typed", typed);
        note("read() with these", desk.read());
    }

    private void lookAtProblem() {
        for (int j = 0; j <= REQUIREMENTS; j++) {
            int columns = desk.compile();
            note("compile()", columns);
            note("feasible()", desk.feasible());
            for (int row = -1; row < 3; row++) {
                for (int column = -1; column < Math.min(columns, 4); column++) {
                    note("entry(" + row + ", " + column + ")", desk.entry(row, column));
                }
            }
            note("withdraw(0)", desk.withdraw(0));
        }
    }
}
