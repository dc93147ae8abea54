/** Promises 11 to 14 and 21: objective, require, withdraw, compile and feasible. */
public final class ProblemTest {
    private static final Check CHECK = new Check();
    private static final int X = 0;
    private static final int CONVEX = 1;
    private static final int CONCAVE = 3;
    private static final int UNKNOWN = 4;
    private static final int ABOVE_UNKNOWN = 5;
    private static final int NUMBER = 6;
    private static final int[] NO_NODES = {-1, 7, 36, Integer.MIN_VALUE, Integer.MAX_VALUE};

    public static void main(String[] args) {
        objectives();
        requirements();
        withdrawals();
        wantedOfObjective();
        wantedOfRequirements();
        firstPartDecides();
        formStandsAndDrops();
        compileAgain();
        feasibility();
        CHECK.finish();
    }

    /** x, A(x), y, L(x,y), x*y, 1 above it, 2. */
    private static Desk desk() {
        return Desk.of("A(x)", "L(x,y)", "x*y", "-#4", "2");
    }

    private static void objectives() {
        CHECK.about("promise 11");
        Desk desk = desk();
        CHECK.due("nodes()", desk.nodes(), 7);
        for (int k : NO_NODES) {
            CHECK.due("objective(" + k + ", true)", desk.objective(k, true), false);
        }
        CHECK.due("compile(): there is none yet", desk.compile(), -1);
        CHECK.due("objective(NUMBER, true)", desk.objective(NUMBER, true), true);
        CHECK.due("compile()", desk.compile(), 0);
        CHECK.due("cost()", desk.cost(), 2);
        CHECK.due("objective(NUMBER, false)", desk.objective(NUMBER, false), true);
        desk.compile();
        CHECK.due("cost() to be greatest", desk.cost(), -2);
        CHECK.due("objective(X, true) in its place", desk.objective(X, true), true);
        CHECK.due("compile()", desk.compile(), 1);
        CHECK.due("cost()", desk.cost(), 0);
    }

    private static void requirements() {
        CHECK.about("promise 12");
        Desk desk = desk();
        for (int k : NO_NODES) {
            CHECK.due("require(false, " + k + ", 0)", desk.require(false, k, 0), false);
            CHECK.due("require(true, 0, " + k + ")", desk.require(true, 0, k), false);
        }
        CHECK.due("withdraw(0): none was added", desk.withdraw(0), false);
        for (int j = 0; j < 6; j++) {
            CHECK.due("require as number " + j, desk.require(j % 2 == 0, X, NUMBER), true);
        }
        CHECK.due("a 7th", desk.require(false, X, X), false);
        desk.objective(X, true);
        desk.compile();
        CHECK.due("rows(0)", desk.rows(0), 3);
        CHECK.due("rows(1)", desk.rows(1), 3);
        CHECK.due("withdraw(5)", desk.withdraw(5), true);
        CHECK.due("withdraw(5) again", desk.withdraw(5), false);
        CHECK.due("a 6th again", desk.require(true, X, X), true);
        CHECK.due("a 7th again", desk.require(true, X, X), false);
    }

    private static void withdrawals() {
        CHECK.about("promise 13");
        Desk desk = Desk.of("x", "1", "2", "3", "4");
        for (int k = 1; k <= 4; k++) {
            desk.require(k == 2, X, k);
        }
        desk.objective(X, true);
        for (int j : new int[] {-1, 4, 6, Integer.MIN_VALUE, Integer.MAX_VALUE}) {
            CHECK.due("withdraw(" + j + ")", desk.withdraw(j), false);
        }
        CHECK.due("withdraw(0)", desk.withdraw(0), true);
        desk.compile();
        CHECK.due("rows(0)", desk.rows(0), 1);
        CHECK.due("rows(1)", desk.rows(1), 2);
        CHECK.due("entry(0, -1): x - 2", desk.entry(0, -1), -2);
        CHECK.due("entry(1, -1): 3 - x", desk.entry(1, -1), 3);
        CHECK.due("entry(2, -1): 4 - x", desk.entry(2, -1), 4);
        CHECK.due("withdraw(1)", desk.withdraw(1), true);
        desk.compile();
        CHECK.due("entry(0, -1)", desk.entry(0, -1), -2);
        CHECK.due("entry(1, -1): 4 - x moved down", desk.entry(1, -1), 4);
        CHECK.due("withdraw(1), the last", desk.withdraw(1), true);
        CHECK.due("withdraw(0)", desk.withdraw(0), true);
        CHECK.due("withdraw(0) of none", desk.withdraw(0), false);
    }

    private static void compilesWith(int k, boolean least, int want) {
        Desk desk = desk();
        desk.objective(k, least);
        CHECK.due("compile() with objective(" + k + ", " + least + ")", desk.compile(), want);
        CHECK.due("lift(): whether a form stands", desk.lift(), want >= 0);
    }

    private static void wantedOfObjective() {
        CHECK.about("promise 14, objective");
        compilesWith(NUMBER, true, 0);
        compilesWith(NUMBER, false, 0);
        compilesWith(X, true, 1);
        compilesWith(X, false, 1);
        compilesWith(CONVEX, true, 2);
        compilesWith(CONVEX, false, -2 - CONVEX);
        compilesWith(CONCAVE, true, -2 - CONCAVE);
        compilesWith(CONCAVE, false, 3);
        compilesWith(UNKNOWN, true, -2 - UNKNOWN);
        compilesWith(ABOVE_UNKNOWN, true, -2 - UNKNOWN);
        compilesWith(ABOVE_UNKNOWN, false, -2 - UNKNOWN);
    }

    private static void compilesRequiring(boolean same, int a, int b, int want) {
        Desk desk = desk();
        desk.objective(NUMBER, true);
        desk.require(same, a, b);
        CHECK.due("compile() with require(" + same + ", " + a + ", " + b + ")", desk.compile(), want);
    }

    private static void wantedOfRequirements() {
        CHECK.about("promise 14, requirements");
        compilesRequiring(false, CONVEX, CONCAVE, 4);
        compilesRequiring(false, CONVEX, X, 2);
        compilesRequiring(false, NUMBER, CONCAVE, 3);
        compilesRequiring(false, CONCAVE, X, -2 - CONCAVE);
        compilesRequiring(false, X, CONVEX, -2 - CONVEX);
        compilesRequiring(false, CONCAVE, CONVEX, -2 - CONCAVE);
        compilesRequiring(false, ABOVE_UNKNOWN, CONVEX, -2 - UNKNOWN);
        compilesRequiring(false, X, ABOVE_UNKNOWN, -2 - UNKNOWN);
        compilesRequiring(true, X, NUMBER, 1);
        compilesRequiring(true, NUMBER, NUMBER, 0);
        compilesRequiring(true, CONVEX, NUMBER, -2 - CONVEX);
        compilesRequiring(true, X, CONVEX, -2 - CONVEX);
        compilesRequiring(true, CONCAVE, CONVEX, -2 - CONCAVE);
        compilesRequiring(true, X, CONCAVE, -2 - CONCAVE);
        compilesRequiring(true, X, ABOVE_UNKNOWN, -2 - UNKNOWN);
    }

    private static void firstPartDecides() {
        CHECK.about("promise 14, first part");
        Desk desk = desk();
        desk.require(false, X, CONVEX);
        desk.require(false, CONCAVE, X);
        CHECK.due("no objective comes before culprits", desk.compile(), -1);
        desk.objective(UNKNOWN, true);
        CHECK.due("the objective first", desk.compile(), -2 - UNKNOWN);
        desk.objective(X, true);
        CHECK.due("then requirement 0", desk.compile(), -2 - CONVEX);
        desk.withdraw(0);
        CHECK.due("then the next", desk.compile(), -2 - CONCAVE);
        desk.withdraw(0);
        CHECK.due("then none", desk.compile(), 1);
    }

    private static void formStandsAndDrops() {
        CHECK.about("promise 14, how long it stands");
        Desk desk = desk();
        desk.objective(CONVEX, true);
        desk.compile();
        CHECK.due("objective of no node", desk.objective(7, true), false);
        CHECK.due("fits(): it stands", desk.fits(), true);
        desk.require(false, 7, 0);
        desk.withdraw(0);
        CHECK.due("fits(): refused calls do not drop it", desk.fits(), true);
        desk.read("M(x,y)+u");
        CHECK.due("fits(): reading does not drop it", desk.fits(), true);
        CHECK.due("column of a node made later", desk.column(7), -1);
        CHECK.about("promise 12");
        CHECK.due("require", desk.require(false, X, NUMBER), true);
        CHECK.due("fits(): require dropped it", desk.fits(), false);
        desk.compile();
        CHECK.due("fits()", desk.fits(), true);
        CHECK.about("promise 13");
        desk.withdraw(0);
        CHECK.due("fits(): withdraw dropped it", desk.fits(), false);
        desk.compile();
        CHECK.due("fits()", desk.fits(), true);
        CHECK.about("promise 11");
        desk.objective(CONVEX, true);
        CHECK.due("fits(): objective dropped it", desk.fits(), false);
    }

    private static void compileAgain() {
        CHECK.about("promise 14, own values");
        Desk desk = desk();
        desk.objective(CONVEX, true);
        desk.compile();
        desk.set(CONVEX, 9);
        CHECK.due("cost()", desk.cost(), 9);
        CHECK.due("compile() again", desk.compile(), 2);
        CHECK.due("cost(): own values are 0", desk.cost(), 0);
        desk.set(X, 4);
        desk.compile();
        CHECK.due("value(X): compile leaves it", desk.value(X), 4);
    }

    private static void feasibility() {
        CHECK.about("promise 21");
        Desk desk = desk();
        CHECK.due("feasible() without requirements", desk.feasible(), true);
        desk.require(false, X, NUMBER);
        CHECK.due("0 <= 2", desk.feasible(), true);
        desk.set(X, 2);
        CHECK.due("2 <= 2", desk.feasible(), true);
        desk.set(X, 3);
        CHECK.due("3 <= 2", desk.feasible(), false);
        desk.withdraw(0);
        desk.require(true, X, NUMBER);
        CHECK.due("3 = 2", desk.feasible(), false);
        desk.set(X, 1);
        CHECK.due("1 = 2", desk.feasible(), false);
        desk.set(X, 2);
        CHECK.due("2 = 2", desk.feasible(), true);
        desk.require(false, NUMBER, UNKNOWN);
        CHECK.due("2 <= x * y at y = 0", desk.feasible(), false);
        desk.set(2, 1);
        CHECK.due("2 <= x * y at y = 1", desk.feasible(), true);
        desk.objective(CONVEX, true);
        CHECK.due("compile(): curvatures do not matter to feasible", desk.compile(), -2 - UNKNOWN);
        desk.withdraw(1);
        desk.withdraw(0);
        desk.require(false, CONVEX, NUMBER);
        desk.compile();
        desk.set(CONVEX, 50);
        CHECK.due("feasible() is by values, not own values", desk.feasible(), true);
        CHECK.due("fits() is by own values", desk.fits(), false);
    }
}
