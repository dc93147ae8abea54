/** The edges that 'Terms' and promises 11 to 14 and 21 name for the problem. */
public final class ProblemEdgesTest {
    private static final Check CHECK = new Check();
    private static final int[] NO_NODE = {Integer.MIN_VALUE, -36, -2, -1, 11, 12, 35, 36, 37, 1 << 30,
        Integer.MAX_VALUE};
    private static final int MOST = 6;

    public static void main(String[] args) {
        objectiveOfNoNode();
        objectiveAtTheEnds();
        objectiveInPlaceOfAnother();
        objectiveDropsTheForm();
        requireOfNoNode();
        requireOfTheSameNode();
        upTo6Requirements();
        aPlaceIsFreeAgain();
        behindTheOthers();
        requireDropsTheForm();
        withdrawOfNone();
        withdrawEachOfSix();
        withdrawAll();
        withdrawDropsTheForm();
        noObjective();
        theProblemsCulprit();
        culpritsAtTheEnds();
        wantedCurvatures();
        firstPartIsToBlame();
        ownValuesBecomeZero();
        formMadeAgain();
        formStandsWhileReading();
        numberOfColumns();
        feasibleWithoutRequirements();
        feasibleAtEquality();
        feasibleWithoutAForm();
        feasibleByValues();
        CHECK.finish();
    }

    private static void objectiveOfNoNode() {
        CHECK.about("promise 11, 'False when there is no node k'");
        for (int k : NO_NODE) {
            CHECK.refused("objective(" + k + ", true)", Desk.busy(), d -> d.objective(k, true));
            CHECK.refused("objective(" + k + ", false)", Desk.busy(), d -> d.objective(k, false));
        }
        CHECK.refused("objective(0, true)", new Desk(), d -> d.objective(0, true));
        CHECK.refused("objective(36, true)", Desk.full(), d -> d.objective(36, true));
        Desk desk = Desk.of("x");
        desk.read("y+#9");
        CHECK.refused("objective of a refused line's node", desk, d -> d.objective(1, true));
        CHECK.due("compile(): there is none yet", desk.compile(), -1);
    }

    private static void objectiveAtTheEnds() {
        CHECK.about("promise 11, the first and the last node");
        Desk desk = Desk.full();
        CHECK.due("objective(35, true)", desk.objective(35, true), true);
        CHECK.due("compile()", desk.compile(), 2);
        CHECK.due("objective(0, true)", desk.objective(0, true), true);
        CHECK.due("compile()", desk.compile(), 1);
    }

    private static void objectiveInPlaceOfAnother() {
        CHECK.about("promise 11, 'in place of any before'");
        Desk desk = Desk.of("7", "x", "A(x)");
        desk.objective(2, true);
        desk.objective(0, false);
        CHECK.due("compile(): neither x nor A(x) is in use", desk.compile(), 0);
        CHECK.due("entry(-1, -1)", desk.entry(-1, -1), -7);
        desk.objective(0, true);
        desk.compile();
        CHECK.due("entry(-1, -1): least in place of greatest", desk.entry(-1, -1), 7);
    }

    private static void objectiveDropsTheForm() {
        CHECK.about("promise 11, 'drops the form'");
        Desk desk = Desk.busy();
        CHECK.due("objective(4, true), as it was", desk.objective(4, true), true);
        dropped(desk);
        CHECK.due("compile()", desk.compile(), 4);
    }

    private static void dropped(Desk desk) {
        CHECK.due("rows(0)", desk.rows(0), 0);
        CHECK.due("rows(1)", desk.rows(1), 0);
        CHECK.due("rows(2)", desk.rows(2), 0);
        CHECK.due("entry(-1, 2)", desk.entry(-1, 2), 0);
        CHECK.due("column(0)", desk.column(0), -1);
        CHECK.due("cost()", desk.cost(), 0);
        CHECK.due("fits()", desk.fits(), false);
        CHECK.refused("lift()", desk, Desk::lift);
    }

    private static void requireOfNoNode() {
        CHECK.about("promise 12, 'False when there is no node a or no node b'");
        for (int k : NO_NODE) {
            CHECK.refused("require(false, " + k + ", 0)", Desk.busy(), d -> d.require(false, k, 0));
            CHECK.refused("require(true, 0, " + k + ")", Desk.busy(), d -> d.require(true, 0, k));
            CHECK.refused("require(true, " + k + ", 10)", Desk.busy(), d -> d.require(true, k, 10));
            CHECK.refused("require(false, 10, " + k + ")", Desk.busy(), d -> d.require(false, 10, k));
            CHECK.refused("require(false, " + k + ", " + k + ")", Desk.busy(), d -> d.require(false, k, k));
        }
        CHECK.refused("require(false, 0, 0)", new Desk(), d -> d.require(false, 0, 0));
        CHECK.due("require(false, 0, 10)", Desk.busy().require(false, 0, 10), true);
        CHECK.due("require(true, 0, 35)", Desk.full().require(true, 0, 35), true);
        CHECK.refused("require(true, 35, 36)", Desk.full(), d -> d.require(true, 35, 36));
    }

    private static void requireOfTheSameNode() {
        CHECK.about("promise 12, a and b may be one node");
        Desk desk = Desk.of("x");
        CHECK.due("require(true, 0, 0)", desk.require(true, 0, 0), true);
        CHECK.due("require(false, 0, 0)", desk.require(false, 0, 0), true);
        CHECK.due("require(false, 0, 0) once more", desk.require(false, 0, 0), true);
        desk.objective(0, true);
        CHECK.due("compile()", desk.compile(), 1);
        CHECK.due("rows(0)", desk.rows(0), 1);
        CHECK.due("rows(1)", desk.rows(1), 2);
        CHECK.due("fits()", desk.fits(), true);
    }

    /** x, then the numbers 1 to 6; requirement j is x <= j + 1. */
    private static Desk bounded(int requirements) {
        Desk desk = Desk.of("x", "1", "2", "3", "4", "5", "6");
        desk.objective(0, true);
        for (int j = 0; j < requirements; j++) {
            desk.require(false, 0, j + 1);
        }
        return desk;
    }

    private static void upTo6Requirements() {
        CHECK.about("Terms, 'up to 6 REQUIREMENTS'; promise 12, 'or there are 6 requirements'");
        for (int j = 0; j < MOST; j++) {
            Desk desk = bounded(j);
            CHECK.due("require as number " + j, desk.require(j % 2 == 0, 0, 1), true);
            desk.compile();
            CHECK.due("rows(0) and rows(1)", desk.rows(0) + desk.rows(1), j + 1);
        }
        Desk desk = bounded(MOST);
        desk.compile();
        CHECK.refused("require(false, 0, 1) as the 7th", desk, d -> d.require(false, 0, 1));
        CHECK.refused("require(true, 0, 1) as the 7th", desk, d -> d.require(true, 0, 1));
        CHECK.refused("require(true, 0, 7) as the 7th", desk, d -> d.require(true, 0, 7));
        CHECK.due("rows(1): the form stands", desk.rows(1), MOST);
    }

    private static void aPlaceIsFreeAgain() {
        CHECK.about("promise 12, withdraw makes room");
        for (int j = 0; j < MOST; j++) {
            Desk desk = bounded(MOST);
            desk.withdraw(j);
            CHECK.due("require after withdraw(" + j + ")", desk.require(true, 0, 1), true);
            CHECK.refused("a 7th", desk, d -> d.require(true, 0, 1));
        }
    }

    /** Rows of requirements x <= n, n from the list, in order. */
    private static void bounds(Desk desk, int... numbers) {
        CHECK.due("compile()", desk.compile(), 1);
        CHECK.due("rows(0)", desk.rows(0), 0);
        CHECK.due("rows(1)", desk.rows(1), numbers.length);
        for (int row = 0; row < numbers.length; row++) {
            CHECK.due("entry(" + row + ", -1)", desk.entry(row, -1), numbers[row]);
            CHECK.due("entry(" + row + ", 0)", desk.entry(row, 0), -1);
        }
        CHECK.due("entry behind them", desk.entry(numbers.length, -1), 0);
    }

    private static void behindTheOthers() {
        CHECK.about("promise 12, 'behind the others'");
        bounds(bounded(1), 1);
        bounds(bounded(MOST), 1, 2, 3, 4, 5, 6);
        Desk desk = bounded(3);
        desk.withdraw(0);
        desk.require(false, 0, 1);
        bounds(desk, 2, 3, 1);
    }

    private static void requireDropsTheForm() {
        CHECK.about("promise 12, 'drops the form'");
        Desk desk = Desk.busy();
        CHECK.due("require(false, 0, 0)", desk.require(false, 0, 0), true);
        dropped(desk);
        desk = Desk.busy();
        CHECK.due("require(true, 0, 0)", desk.require(true, 0, 0), true);
        dropped(desk);
    }

    private static void withdrawOfNone() {
        CHECK.about("promise 13, 'False when there is no requirement j'");
        for (int requirements = 0; requirements <= MOST; requirements++) {
            Desk desk = bounded(requirements);
            desk.compile();
            for (int j : new int[] {Integer.MIN_VALUE, -6, -1, requirements, 6, 7, 36, Integer.MAX_VALUE}) {
                CHECK.refused("withdraw(" + j + ") of " + requirements, desk, d -> d.withdraw(j));
            }
        }
        for (int j : new int[] {Integer.MIN_VALUE, -1, 3, 4, 6, Integer.MAX_VALUE}) {
            CHECK.refused("withdraw(" + j + ")", Desk.busy(), d -> d.withdraw(j));
        }
    }

    private static void withdrawEachOfSix() {
        CHECK.about("promise 13, 'those behind it move down by one'");
        for (int j = 0; j < MOST; j++) {
            Desk desk = bounded(MOST);
            CHECK.due("withdraw(" + j + ")", desk.withdraw(j), true);
            int[] left = new int[MOST - 1];
            for (int i = 0; i < left.length; i++) {
                left[i] = i < j ? i + 1 : i + 2;
            }
            bounds(desk, left);
            CHECK.refused("withdraw(5): five are left", desk, d -> d.withdraw(5));
        }
        Desk desk = Desk.of("x", "1", "2");
        desk.objective(0, true);
        desk.require(false, 0, 1);
        desk.require(true, 0, 2);
        desk.withdraw(0);
        desk.compile();
        CHECK.due("rows(0): x = 2 is yet an =", desk.rows(0), 1);
        CHECK.due("rows(1)", desk.rows(1), 0);
        CHECK.due("entry(0, -1)", desk.entry(0, -1), -2);
    }

    private static void withdrawAll() {
        CHECK.about("promise 13, from the first or the last on till there are none");
        Desk desk = bounded(MOST);
        for (int j = MOST - 1; j >= 0; j--) {
            CHECK.due("withdraw(" + j + ")", desk.withdraw(j), true);
        }
        bounds(desk);
        desk = bounded(MOST);
        for (int j = 0; j < MOST; j++) {
            CHECK.due("withdraw(0)", desk.withdraw(0), true);
        }
        CHECK.refused("withdraw(0) of none", desk, d -> d.withdraw(0));
        bounds(desk);
    }

    private static void withdrawDropsTheForm() {
        CHECK.about("promise 13, 'drops the form'");
        Desk desk = Desk.busy();
        CHECK.due("withdraw(2)", desk.withdraw(2), true);
        dropped(desk);
    }

    private static void noObjective() {
        CHECK.about("promise 14, '-1 when there is no objective'");
        CHECK.refused("compile() of a new object", new Desk(), Desk::compile, -1);
        Desk desk = Desk.of("x", "A(x)");
        desk.require(false, 0, 1);
        CHECK.refused("compile() though a requirement is not as wanted", desk, Desk::compile, -1);
        desk = Desk.of("x");
        desk.require(true, 0, 0);
        CHECK.refused("compile() with a requirement", desk, Desk::compile, -1);
    }

    private static void theProblemsCulprit() {
        CHECK.about("promise 14, 'else -2 - n, n the problem's culprit'");
        Desk desk = Desk.of("A(x)", "-(x*x)+1");
        CHECK.due("nodes()", desk.nodes(), 6);
        desk.objective(1, false);
        CHECK.refused("compile(): the part itself, for it is not UNKNOWN", desk, Desk::compile, -2 - 1);
        desk.objective(5, true);
        CHECK.refused("compile(): the culprit of the part", desk, Desk::compile, -2 - 2);
        desk.objective(0, true);
        desk.require(false, 5, 0);
        CHECK.refused("compile(): the culprit of a", desk, Desk::compile, -2 - 2);
        desk.withdraw(0);
        desk.require(false, 0, 1);
        CHECK.refused("compile(): b itself", desk, Desk::compile, -2 - 1);
        CHECK.due("rows(1): no form stands", desk.rows(1), 0);
    }

    private static void culpritsAtTheEnds() {
        CHECK.about("promise 14, -2 - n for the least and the greatest n");
        Desk desk = Desk.of("x*x");
        desk.objective(1, true);
        CHECK.refused("compile()", desk, Desk::compile, -3);
        desk = Desk.full();
        desk.objective(35, false);
        CHECK.refused("compile()", desk, Desk::compile, -37);
    }

    /** Nodes 0 to 4 of these curvatures: CONSTANT, AFFINE, CONVEX, CONCAVE, UNKNOWN. */
    private static Desk curved() {
        return Desk.of("1", "x", "A(x)", "L(x,1)", "x*x");
    }

    private static void wantedCurvatures() {
        CHECK.about("Terms, 'WANTED is'");
        for (int k = 0; k < 5; k++) {
            int part = k;
            Desk desk = curved();
            desk.objective(part, true);
            CHECK.due("compile() of least " + k, desk.compile() >= 0, k <= 2);
            desk.objective(part, false);
            CHECK.due("compile() of greatest " + k, desk.compile() >= 0, k <= 1 || k == 3);
            desk.objective(0, true);
            desk.require(false, part, 0);
            CHECK.due("compile() of " + k + " <= 1", desk.compile(), k <= 2 ? columnsOf(k) : -2 - k);
            desk.withdraw(0);
            desk.require(false, 0, part);
            CHECK.due("compile() of 1 <= " + k, desk.compile(), k <= 1 || k == 3 ? columnsOf(k) : -2 - k);
            desk.withdraw(0);
            desk.require(true, part, 0);
            CHECK.due("compile() of " + k + " = 1", desk.compile(), k <= 1 ? columnsOf(k) : -2 - k);
            desk.withdraw(0);
            desk.require(true, 0, part);
            CHECK.due("compile() of 1 = " + k, desk.compile(), k <= 1 ? columnsOf(k) : -2 - k);
        }
    }

    private static int columnsOf(int k) {
        return k < 2 ? k : 2;
    }

    private static void firstPartIsToBlame() {
        CHECK.about("Terms, 'The first PART (the objective, then requirement after requirement, a before b)'");
        Desk desk = curved();
        desk.objective(4, true);
        for (int j = 0; j < 5; j++) {
            desk.require(false, 1, 1);
        }
        desk.require(false, 3, 2);
        CHECK.refused("compile(): the objective", desk, Desk::compile, -2 - 4);
        desk.objective(1, true);
        CHECK.refused("compile(): a of the sixth requirement", desk, Desk::compile, -2 - 3);
        desk.withdraw(5);
        desk.require(false, 2, 2);
        CHECK.refused("compile(): b of the sixth requirement", desk, Desk::compile, -2 - 2);
        desk.withdraw(0);
        desk.require(true, 3, 1);
        CHECK.refused("compile(): the fifth before the sixth", desk, Desk::compile, -2 - 2);
        desk.withdraw(4);
        CHECK.refused("compile(): now the next", desk, Desk::compile, -2 - 3);
        desk.withdraw(4);
        CHECK.due("compile(): all are as wanted", desk.compile(), 1);
    }

    private static void ownValuesBecomeZero() {
        CHECK.about("promise 14, 'with the own value of each auxiliary 0 (also when a form stood)'");
        Desk desk = Desk.busy();
        CHECK.due("cost()", desk.cost(), 17);
        CHECK.due("compile() when a form stands", desk.compile(), 4);
        CHECK.due("cost()", desk.cost(), 0);
        desk.lift();
        CHECK.due("cost() after lift", desk.cost(), 23);
        desk.withdraw(0);
        desk.compile();
        CHECK.due("cost() after the form was dropped and made", desk.cost(), 0);
        CHECK.due("value(0): compile leaves it", desk.value(0), -7);
        CHECK.due("value(5): compile leaves it", desk.value(5), 3);
    }

    private static void formMadeAgain() {
        CHECK.about("promise 14, 'Makes the form .. (also when a form stood)': the same, and nothing of one before");
        Desk desk = Desk.busy();
        for (int times = 0; times < 3; times++) {
            CHECK.due("compile()", desk.compile(), 4);
            CHECK.due("rows(0)", desk.rows(0), 1);
            CHECK.due("rows(1)", desk.rows(1), 4);
            CHECK.due("rows(2)", desk.rows(2), 3);
            CHECK.due("entry(7, 1)", desk.entry(7, 1), 2);
            CHECK.due("entry(8, 1)", desk.entry(8, 1), 0);
        }
        for (int j = 0; j < 3; j++) {
            desk.withdraw(0);
        }
        desk.objective(0, true);
        CHECK.due("compile() of x alone", desk.compile(), 1);
        for (int cone = 0; cone < 3; cone++) {
            CHECK.due("rows(" + cone + ")", desk.rows(cone), 0);
        }
        for (int k = 1; k < 11; k++) {
            CHECK.due("column(" + k + ")", desk.column(k), -1);
        }
        CHECK.due("entry(0, 0)", desk.entry(0, 0), 0);
        CHECK.due("fits()", desk.fits(), true);
        CHECK.due("cost()", desk.cost(), -7);
    }

    private static void formStandsWhileReading() {
        CHECK.about("promise 14, 'till objective, require or withdraw drop it (reading more lines does not)'");
        Desk desk = Desk.busy();
        int[] columns = {0, 2, 1, 3, -1, -1, -1, -1, -1, -1, -1};
        CHECK.due("read() of a line that is refused", desk.read(), -6);
        desk.wipe();
        CHECK.due("read() of S(u)+M(x,v)", desk.read("S(u)+M(x,v)"), 15);
        CHECK.due("read() of #99", desk.read("#99"), ConeForms.ABSENT);
        CHECK.due("set(0, 6)", desk.set(0, 6), true);
        CHECK.due("cost(): form and own values stand", desk.cost(), 17);
        CHECK.due("rows(0)", desk.rows(0), 1);
        CHECK.due("rows(1)", desk.rows(1), 4);
        CHECK.due("rows(2)", desk.rows(2), 3);
        for (int k = 0; k < columns.length; k++) {
            CHECK.due("column(" + k + ")", desk.column(k), columns[k]);
        }
        for (int k = columns.length; k <= 15; k++) {
            CHECK.due("column(" + k + ") of a node made later", desk.column(k), -1);
        }
        CHECK.due("entry(-1, 4): no column more", desk.entry(-1, 4), 0);
        CHECK.due("lift()", desk.lift(), true);
        CHECK.due("cost()", desk.cost(), 22);
        CHECK.due("feasible()", desk.feasible(), false);
        CHECK.due("fits()", desk.fits(), false);
        CHECK.due("rows(1): none of these drops it", desk.rows(1), 4);
    }

    private static void numberOfColumns() {
        CHECK.about("promise 14, 'the number of columns', from 0 to 36");
        Desk desk = Desk.of("7");
        desk.objective(0, true);
        CHECK.due("compile() without variables", desk.compile(), 0);
        desk = Desk.of("M(r,2)");
        desk.objective(2, true);
        CHECK.due("compile() of a CONSTANT MAX", desk.compile(), 0);
        desk = Desk.of("u", "v", "w", "x", "y", "z", "u+v+w+x+y+z");
        desk.objective(10, true);
        CHECK.due("compile() of six variables", desk.compile(), 6);
        desk = Desk.of("x");
        for (int k = 0; k < 35; k++) {
            desk.typeAll("A(#" + k + ")");
            desk.read();
        }
        desk.objective(35, true);
        CHECK.due("compile() of 36 columns", desk.compile(), 36);
        CHECK.due("rows(1)", desk.rows(1), 70);
        CHECK.due("entry(69, 35)", desk.entry(69, 35), 1);
        CHECK.due("entry(69, 34)", desk.entry(69, 34), 1);
        CHECK.due("entry(68, 34)", desk.entry(68, 34), -1);
        CHECK.due("entry(70, 35)", desk.entry(70, 35), 0);
        CHECK.due("entry(69, 36)", desk.entry(69, 36), 0);
    }

    private static void feasibleWithoutRequirements() {
        CHECK.about("promise 21, 'and when there are none'");
        CHECK.due("feasible() of a new object", new Desk().feasible(), true);
        Desk desk = Desk.of("x", "1");
        CHECK.due("feasible()", desk.feasible(), true);
        desk.require(false, 1, 0);
        CHECK.due("feasible(): 1 <= 0", desk.feasible(), false);
        desk.withdraw(0);
        CHECK.due("feasible() when the only one is withdrawn", desk.feasible(), true);
    }

    private static void feasibleAtEquality() {
        CHECK.about("promise 21, 'Whether all requirements hold'");
        for (int x = -20; x <= 20; x++) {
            Desk desk = Desk.of("x", "y");
            desk.set(0, x);
            desk.set(1, 3);
            desk.require(false, 0, 1);
            CHECK.due("feasible(): " + x + " <= 3", desk.feasible(), x <= 3);
            desk.withdraw(0);
            desk.require(false, 1, 0);
            CHECK.due("feasible(): 3 <= " + x, desk.feasible(), 3 <= x);
            desk.withdraw(0);
            desk.require(true, 0, 1);
            CHECK.due("feasible(): " + x + " = 3", desk.feasible(), x == 3);
        }
        for (int bad = 0; bad < MOST; bad++) {
            Desk desk = Desk.of("x", "1");
            for (int j = 0; j < MOST; j++) {
                desk.require(false, j == bad ? 1 : 0, j == bad ? 0 : 1);
            }
            CHECK.due("feasible() when number " + bad + " alone does not hold", desk.feasible(), false);
            desk.set(0, 1);
            CHECK.due("feasible() when all hold", desk.feasible(), true);
        }
    }

    private static void feasibleWithoutAForm() {
        CHECK.about("promise 21, 'also when no form stands'");
        Desk desk = Desk.of("x*x", "9");
        desk.require(true, 1, 2);
        CHECK.due("feasible(): 0 = 9", desk.feasible(), false);
        desk.set(0, -3);
        CHECK.due("feasible(): 9 = 9, of an UNKNOWN node", desk.feasible(), true);
        desk.objective(0, true);
        CHECK.due("compile()", desk.compile(), -2 - 1);
        CHECK.due("feasible() after a refused compile", desk.feasible(), true);
    }

    private static void feasibleByValues() {
        CHECK.about("promise 21, 'for the nodes' values'");
        Desk desk = Desk.of("A(x)", "5");
        desk.require(false, 1, 2);
        desk.objective(1, true);
        desk.compile();
        desk.set(0, -5);
        desk.set(1, 6);
        CHECK.due("feasible() while the own value is 6", desk.feasible(), true);
        desk.set(0, -6);
        desk.set(1, 5);
        CHECK.due("feasible() while the own value is 5", desk.feasible(), false);
    }
}
