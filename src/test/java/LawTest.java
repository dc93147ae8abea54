/**
 * What the document's words mean, beyond its rules: values keep within reach and signs, a curvature
 * tells how values bend, and a form says of lifted values what the problem says of the nodes'.
 */
public final class LawTest {
    private static final Check CHECK = new Check();
    private static final int RUNS = 3000;
    private static final int LINE = 20;
    private static final int LINES = 7;
    private static final int NODES = 36;
    private static final int SPAN = 10;

    private final Chance chance;
    private Desk desk = new Desk();
    private int count;
    private int forms;
    private int standing;

    private LawTest(int run) {
        chance = new Chance(31 + 1000033L * run);
    }

    public static void main(String[] args) {
        int forms = 0;
        int standing = 0;
        for (int run = 0; run < RUNS; run++) {
            LawTest test = new LawTest(run);
            test.readLines();
            test.valuesBend();
            test.formsHold();
            forms += test.forms;
            standing += test.standing;
        }
        CHECK.about("the test itself");
        CHECK.holds("many forms stood: " + standing + " of " + forms, standing > RUNS);
        CHECK.finish();
    }

    private void readLines() {
        for (int i = 0; i < LINES; i++) {
            String text = chance.expression(1 + chance.pick(3), desk.nodes());
            if (text.length() <= LINE) {
                desk.read(text);
            }
        }
        count = desk.nodes();
    }

    private int curvature(int k) {
        return desk.attributes(k) / 4 % 8;
    }

    // ---- values ---------------------------------------------------------------------------

    /** Each variable at a middle and as far to either side of it, the parameters as they are. */
    private void valuesBend() {
        int[] middle = new int[count];
        int[] aside = new int[count];
        boolean[] variable = new boolean[count];
        for (int k = 0; k < count; k++) {
            desk.set(k, chance.pick(2 * SPAN) - SPAN);
            variable[k] = curvature(k) == 1 && desk.set(k, 0);
            middle[k] = chance.pick(2 * SPAN + 1) - SPAN;
            aside[k] = chance.pick(2 * SPAN + 1) - SPAN;
        }
        long[] low = valuesAt(variable, middle, aside, -1);
        long[] mid = valuesAt(variable, middle, aside, 0);
        long[] high = valuesAt(variable, middle, aside, 1);
        for (int k = 0; k < count; k++) {
            bends(k, low[k] + high[k] - 2 * mid[k], low[k] == mid[k] && mid[k] == high[k]);
        }
    }

    private long[] valuesAt(boolean[] variable, int[] middle, int[] aside, int times) {
        makeRoom();
        long[] values = new long[count];
        for (int k = 0; k < count; k++) {
            if (variable[k]) {
                desk.set(k, middle[k] + times * aside[k]);
            }
        }
        for (int k = 0; k < count; k++) {
            values[k] = desk.value(k);
            keepsWithin(k, values[k]);
        }
        return values;
    }

    private void makeRoom() {
        if (desk.callsLeft() < 8 * NODES) {
            desk = desk.again();
        }
    }

    private void keepsWithin(int k, long value) {
        CHECK.about("Terms, 'no value lies beyond its reach, above or below 0'");
        CHECK.holds("node " + k + " keeps within its reach at " + value, Math.abs(value) <= desk.reach(k));
        CHECK.about("Terms, 'A node MAY BE ABOVE 0, MAY BE BELOW 0, both or neither'");
        int signs = desk.attributes(k) % 4;
        CHECK.holds("node " + k + " may be " + value, value == 0 || (signs & (value > 0 ? 1 : 2)) != 0);
    }

    private void bends(int k, long bend, boolean still) {
        CHECK.about("Terms, '0 CONSTANT, 1 AFFINE, 2 CONVEX, 3 CONCAVE, 4 UNKNOWN'");
        int curvature = curvature(k);
        CHECK.holds("node " + k + " is CONSTANT and stays", curvature != 0 || still);
        CHECK.holds("node " + k + " is AFFINE and goes straight", curvature != 1 || bend == 0);
        CHECK.holds("node " + k + " is CONVEX and bends upwards", curvature != 2 || bend >= 0);
        CHECK.holds("node " + k + " is CONCAVE and bends downwards", curvature != 3 || bend <= 0);
    }

    // ---- forms ----------------------------------------------------------------------------

    private void formsHold() {
        for (int i = 0; i < 4 && count > 0; i++) {
            makeRoom();
            int target = chance.pick(count);
            boolean least = curvature(target) < 2 ? chance.pick(2) == 0 : curvature(target) == 2;
            desk.objective(target, least);
            desk.withdraw(0);
            desk.withdraw(0);
            for (int many = chance.pick(3); many > 0; many--) {
                require();
            }
            forms++;
            if (desk.compile() >= 0) {
                standing++;
                liftedIsTrue(target, least);
                rowsAreSums();
            }
        }
    }

    /** One that is as wanted, as far as a few picks find it. */
    private void require() {
        for (int tries = 0; tries < 6; tries++) {
            int a = chance.pick(count);
            int b = chance.pick(count);
            boolean same = curvature(a) < 2 && curvature(b) < 2 && chance.pick(4) == 0;
            if (same || curvature(a) < 3 && (curvature(b) < 2 || curvature(b) == 3)) {
                desk.require(same, a, b);
                return;
            }
        }
    }

    private void liftedIsTrue(int target, boolean least) {
        makeRoom();
        CHECK.about("promises 18 to 21, with each auxiliary as its node the form tells of the problem");
        CHECK.due("lift()", desk.lift(), true);
        CHECK.due("fits() as feasible()", desk.fits(), desk.feasible());
        CHECK.due("cost()", desk.cost(), least ? desk.value(target) : -(long) desk.value(target));
    }

    /** With some auxiliaries off their nodes' values, so that rows differ from what the nodes say. */
    private void rowsAreSums() {
        CHECK.about("Terms, 'its constant and the sum of its numbers times the values of the columns'");
        long[] at = new long[NODES];
        int columns = 0;
        for (int k = 0; k < count; k++) {
            makeRoom();
            int column = desk.column(k);
            if (column >= 0) {
                int own = desk.value(k) + (chance.pick(3) == 0 ? chance.pick(7) - 2 : 0);
                at[column] = curvature(k) != 1 && desk.set(k, own) ? own : desk.value(k);
                columns++;
            }
        }
        CHECK.due("cost()", desk.cost(), rowValue(-1, columns, at));
        CHECK.due("fits()", desk.fits(), allFit(columns, at));
    }

    private long rowValue(int row, int columns, long[] at) {
        makeRoom();
        long sum = desk.entry(row, -1);
        for (int column = 0; column < columns; column++) {
            sum += desk.entry(row, column) * at[column];
        }
        return sum;
    }

    private boolean allFit(int columns, long[] at) {
        int bounds = desk.rows(0);
        int squares = bounds + desk.rows(1);
        int end = squares + desk.rows(2);
        boolean fit = true;
        for (int row = 0; row < squares; row++) {
            long value = rowValue(row, columns, at);
            fit &= row < bounds ? value == 0 : value >= 0;
        }
        for (int row = squares; row < end; row += 3) {
            long first = rowValue(row, columns, at);
            long second = rowValue(row + 1, columns, at);
            long third = rowValue(row + 2, columns, at);
            fit &= first >= 0 && first * first >= second * second + third * third;
        }
        return fit;
    }
}
