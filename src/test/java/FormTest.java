/** Promises 15 to 20: rows, entry, column, lift, fits and cost. */
public final class FormTest {
    private static final Check CHECK = new Check();

    public static void main(String[] args) {
        columns();
        inUse();
        rowsOfMaxAndMin();
        rowsOfAbsAndPairs();
        rowsOfSquare();
        orderOfRows();
        requirementRows();
        expansions();
        parametersAsTheyAreNow();
        constantAuxiliary();
        outside();
        noForm();
        lifting();
        fitting();
        squareEdges();
        costs();
        greatNumbers();
        fullDesk();
        CHECK.finish();
    }

    /** A desk whose form has the last text's node as its objective. */
    private static Desk least(String... texts) {
        Desk desk = Desk.of(texts);
        desk.objective(desk.read(texts[texts.length - 1]), true);
        if (desk.compile() < 0) {
            throw new IllegalArgumentException("the test's own problem is refused");
        }
        return desk;
    }

    /** The row's constant, then its numbers. */
    private static void row(Desk desk, int row, int... numbers) {
        for (int i = 0; i < numbers.length; i++) {
            CHECK.due("entry(" + row + ", " + (i - 1) + ")", desk.entry(row, i - 1), numbers[i]);
        }
        CHECK.due("entry behind the last column", desk.entry(row, numbers.length - 1), 0);
    }

    private static void rowCounts(Desk desk, int zero, int bound, int square) {
        CHECK.due("rows(0)", desk.rows(0), zero);
        CHECK.due("rows(1)", desk.rows(1), bound);
        CHECK.due("rows(2)", desk.rows(2), square);
        CHECK.due("rows(-1)", desk.rows(-1), 0);
        CHECK.due("rows(3)", desk.rows(3), 0);
        CHECK.due("rows(least int)", desk.rows(Integer.MIN_VALUE), 0);
        CHECK.due("rows(greatest int)", desk.rows(Integer.MAX_VALUE), 0);
    }

    private static void columns() {
        CHECK.about("promise 17");
        Desk desk = least("A(z)", "y", "M(#1,S(y))+z");
        CHECK.due("compile()", desk.compile(), 5);
        int[] want = {0, 2, 1, 3, 4, -1};
        for (int k = 0; k < want.length; k++) {
            CHECK.due("column(" + k + ")", desk.column(k), want[k]);
        }
        for (int k : new int[] {-1, 6, 36, Integer.MIN_VALUE, Integer.MAX_VALUE}) {
            CHECK.due("column(" + k + ")", desk.column(k), -1);
        }
    }

    private static void inUse() {
        CHECK.about("promise 17, in use");
        Desk desk = Desk.of("x", "A(y)", "S(z)", "p*u", "5");
        int number = desk.nodes() - 1;
        desk.objective(0, true);
        desk.require(false, 2, number);
        CHECK.due("compile(): x, y and A(y)", desk.compile(), 3);
        CHECK.due("column(0): x", desk.column(0), 0);
        CHECK.due("column(1): y", desk.column(1), 1);
        CHECK.due("column(2): A(y)", desk.column(2), 2);
        CHECK.due("column(3): z is not in use", desk.column(3), -1);
        CHECK.due("column(4): S(z) is not in use", desk.column(4), -1);
        rowCounts(desk, 0, 3, 0);
        desk.withdraw(0);
        CHECK.due("compile(): x alone", desk.compile(), 1);
        CHECK.due("column(1)", desk.column(1), -1);
        desk.objective(number - 1, true);
        CHECK.due("compile(): u alone, though p is 0", desk.compile(), 1);
        CHECK.due("column of u", desk.column(6), 0);
        CHECK.due("column of p", desk.column(5), -1);
        CHECK.due("column(0)", desk.column(0), -1);
    }

    private static void rowsOfMaxAndMin() {
        CHECK.about("promise 16, MAX and MIN");
        Desk desk = least("M(x+1,3-y)");
        row(desk, 0, -1, -1, 0, 1);
        row(desk, 1, -3, 0, 1, 1);
        row(desk, -1, 0, 0, 0, 1);
        CHECK.about("promise 15");
        rowCounts(desk, 0, 2, 0);
        CHECK.about("promise 16, MAX and MIN");
        desk = Desk.of("L(x+1,3-y)");
        desk.objective(desk.nodes() - 1, false);
        desk.compile();
        row(desk, 0, 1, 1, 0, -1);
        row(desk, 1, 3, 0, -1, -1);
        row(desk, -1, 0, 0, 0, -1);
        CHECK.about("promise 15");
        rowCounts(desk, 0, 2, 0);
    }

    private static void rowsOfAbsAndPairs() {
        CHECK.about("promise 16, ABS and PAIRS");
        Desk desk = least("A(2*x-5)");
        row(desk, 0, 5, -2, 1);
        row(desk, 1, -5, 2, 1);
        CHECK.about("promise 15");
        rowCounts(desk, 0, 2, 0);
        CHECK.about("promise 16, ABS and PAIRS");
        desk = least("P(x+1,2*y,4-z)");
        row(desk, 0, -1, -1, -2, 0, 1);
        row(desk, 1, -5, -1, 0, 1, 1);
        row(desk, 2, -4, 0, -2, 1, 1);
        CHECK.about("promise 15");
        rowCounts(desk, 0, 3, 0);
        CHECK.about("promise 16, ABS and PAIRS");
        desk = least("P(x,x,x)");
        row(desk, 0, 0, -2, 1);
        row(desk, 1, 0, -2, 1);
        row(desk, 2, 0, -2, 1);
    }

    private static void rowsOfSquare() {
        CHECK.about("promise 16, SQUARE");
        Desk desk = least("S(3*x-4)");
        row(desk, 0, 1, 0, 1);
        row(desk, 1, 1, 0, -1);
        row(desk, 2, -8, 6, 0);
        CHECK.about("promise 15");
        rowCounts(desk, 0, 0, 3);
    }

    private static void orderOfRows() {
        CHECK.about("promise 16, order");
        Desk desk = least("S(x)", "A(x)", "S(#2)", "P(x,#1,#3)");
        rowCounts(desk, 0, 5, 6);
        row(desk, 0, 0, -1, 0, 1, 0, 0);
        row(desk, 1, 0, 1, 0, 1, 0, 0);
        row(desk, 2, 0, -1, -1, 0, 0, 1);
        row(desk, 3, 0, -1, 0, 0, -1, 1);
        row(desk, 4, 0, 0, -1, 0, -1, 1);
        row(desk, 5, 1, 0, 1, 0, 0, 0);
        row(desk, 6, 1, 0, -1, 0, 0, 0);
        row(desk, 7, 0, 2, 0, 0, 0, 0);
        row(desk, 8, 1, 0, 0, 0, 1, 0);
        row(desk, 9, 1, 0, 0, 0, -1, 0);
        row(desk, 10, 0, 0, 0, 2, 0, 0);
        row(desk, 11, 0, 0, 0, 0, 0, 0);
    }

    private static void requirementRows() {
        CHECK.about("promise 16, requirements");
        Desk desk = Desk.of("x", "y", "3", "A(x)", "x+y");
        desk.objective(0, true);
        desk.require(false, 3, 2);
        desk.require(true, 0, 2);
        desk.require(false, 0, 1);
        desk.require(true, 4, 0);
        desk.require(true, 1, 1);
        CHECK.due("compile()", desk.compile(), 3);
        rowCounts(desk, 3, 4, 0);
        row(desk, 0, -3, 1, 0, 0);
        row(desk, 1, 0, 0, 1, 0);
        row(desk, 2, 0, 0, 0, 0);
        row(desk, 3, 3, 0, 0, -1);
        row(desk, 4, 0, -1, 1, 0);
        row(desk, 5, 0, -1, 0, 1);
        row(desk, 6, 0, 1, 0, 1);
    }

    private static void expansions() {
        CHECK.about("promise 16, expansions");
        Desk desk = least("A(x)", "4-(-x+#1*3)*-2");
        row(desk, -1, 4, -2, 6);
        desk = least("2*(x+5)*3-(y-x)");
        row(desk, -1, 30, 7, -1);
        desk = least("x-x+0*y+7*2");
        row(desk, -1, 14, 0, 0);
        desk.objective(desk.nodes() - 1, false);
        desk.compile();
        row(desk, -1, -14, 0, 0);
    }

    private static void parametersAsTheyAreNow() {
        CHECK.about("promise 16, parameters");
        Desk desk = least("r*x+p*A(q*x+r)+q");
        int r = 0;
        int p = 3;
        int q = 4;
        row(desk, -1, 0, 0, 0);
        desk.set(r, -7);
        desk.set(p, 9);
        desk.set(q, -2);
        row(desk, -1, -2, -7, 9);
        row(desk, 0, 7, 2, 1);
        row(desk, 1, -7, -2, 1);
        desk.set(q, 0);
        row(desk, -1, 0, -7, 9);
        row(desk, 0, 7, 0, 1);
        desk.set(1, 20);
        row(desk, -1, 0, -7, 9);
    }

    private static void constantAuxiliary() {
        CHECK.about("promise 17, CONSTANT");
        Desk desk = least("M(p,3)*x+S(r)");
        CHECK.due("compile(): x alone", desk.compile(), 1);
        rowCounts(desk, 0, 0, 0);
        row(desk, -1, 0, 3);
        desk.set(0, 8);
        desk.set(desk.nodes() - 3, -6);
        row(desk, -1, 36, 8);
        CHECK.due("column of M(p,3)", desk.column(2), -1);
        desk = least("P(1,r,5)+L(2,A(p))");
        CHECK.due("compile()", desk.compile(), 0);
        row(desk, -1, 6);
        CHECK.due("cost()", desk.cost(), 6);
        CHECK.due("fits() without rows", desk.fits(), true);
    }

    private static void outside() {
        CHECK.about("promise 16, outside");
        Desk desk = least("S(x)+4");
        int[] beyond = {-2, -3, 3, 113, 114, 115, Integer.MIN_VALUE, Integer.MAX_VALUE};
        for (int row : beyond) {
            CHECK.due("entry(" + row + ", -1)", desk.entry(row, -1), 0);
            CHECK.due("entry(" + row + ", 0)", desk.entry(row, 0), 0);
        }
        for (int column : new int[] {-2, 2, 35, 36, Integer.MIN_VALUE, Integer.MAX_VALUE}) {
            CHECK.due("entry(-1, " + column + ")", desk.entry(-1, column), 0);
            CHECK.due("entry(0, " + column + ")", desk.entry(0, column), 0);
        }
        CHECK.due("entry(-1, -1)", desk.entry(-1, -1), 4);
        CHECK.due("entry(0, -1)", desk.entry(0, -1), 1);
    }

    private static void noForm() {
        Desk desk = least("A(x)+4");
        desk.objective(0, true);
        CHECK.about("promise 15");
        CHECK.due("rows(1) without a form", desk.rows(1), 0);
        CHECK.about("promise 16");
        CHECK.due("entry(-1, 0) without a form", desk.entry(-1, 0), 0);
        CHECK.due("entry(0, 0) without a form", desk.entry(0, 0), 0);
        CHECK.due("entry(-1, -1) without a form", desk.entry(-1, -1), 0);
        CHECK.about("promise 17");
        CHECK.due("column(0) without a form", desk.column(0), -1);
        CHECK.about("promise 18");
        CHECK.due("lift() without a form", desk.lift(), false);
        CHECK.about("promise 19");
        CHECK.due("fits() without a form", desk.fits(), false);
        CHECK.about("promise 20");
        desk.set(0, 5);
        CHECK.due("cost() without a form", desk.cost(), 0);
        desk.compile();
        CHECK.due("cost()", desk.cost(), 5);
    }

    private static void lifting() {
        CHECK.about("promise 18");
        Desk desk = least("A(x)", "S(y)+#1");
        desk.set(0, -7);
        desk.set(2, 4);
        CHECK.due("cost() before", desk.cost(), 0);
        CHECK.due("lift()", desk.lift(), true);
        CHECK.due("cost() after", desk.cost(), 23);
        desk.set(0, 1);
        CHECK.due("cost(): own values stay", desk.cost(), 23);
        desk.set(1, 100);
        CHECK.due("cost(): one alone is set", desk.cost(), 116);
        CHECK.due("lift()", desk.lift(), true);
        CHECK.due("cost()", desk.cost(), 17);
        desk.compile();
        CHECK.due("cost(): compile makes own values 0", desk.cost(), 0);
    }

    private static void fitsAt(Desk desk, int node, int own, boolean want) {
        CHECK.due("set(" + node + ", " + own + ")", desk.set(node, own), true);
        CHECK.due("fits() with own value " + own, desk.fits(), want);
    }

    private static void fitting() {
        CHECK.about("promise 19");
        Desk desk = least("A(x)");
        desk.set(0, -7);
        fitsAt(desk, 1, 6, false);
        fitsAt(desk, 1, 7, true);
        fitsAt(desk, 1, 8, true);
        desk.set(0, 9);
        CHECK.due("fits() follows the variable", desk.fits(), false);
        desk = Desk.of("L(x,2)");
        desk.objective(2, false);
        desk.compile();
        desk.set(0, 5);
        fitsAt(desk, 2, 2, true);
        fitsAt(desk, 2, 3, false);
        fitsAt(desk, 2, -9, true);
        desk = Desk.of("x", "2", "y");
        desk.objective(0, true);
        desk.require(true, 0, 1);
        desk.require(false, 2, 0);
        desk.compile();
        CHECK.due("fits(): 0 = 2", desk.fits(), false);
        desk.set(0, 2);
        CHECK.due("fits(): 2 = 2", desk.fits(), true);
        desk.set(2, 3);
        CHECK.due("fits(): 3 <= 2", desk.fits(), false);
        desk.set(2, 2);
        CHECK.due("fits(): 2 <= 2", desk.fits(), true);
        desk.set(0, 3);
        CHECK.due("fits(): 3 = 2", desk.fits(), false);
    }

    private static void squareEdges() {
        CHECK.about("promise 19, SQUARE");
        Desk desk = least("S(x)");
        fitsAt(desk, 1, 0, true);
        fitsAt(desk, 1, -1, false);
        fitsAt(desk, 1, -2, false);
        fitsAt(desk, 1, -1000000, false);
        desk.set(0, -20);
        fitsAt(desk, 1, 399, false);
        fitsAt(desk, 1, 400, true);
        fitsAt(desk, 1, 1000000, true);
        desk = least("S(A(x))+S(y)");
        desk.set(0, 3);
        desk.lift();
        CHECK.due("fits()", desk.fits(), true);
        fitsAt(desk, 1, 4, false);
        fitsAt(desk, 2, 15, false);
        fitsAt(desk, 2, 16, true);
        desk.set(3, 1);
        CHECK.due("fits(): the second SQUARE", desk.fits(), false);
    }

    private static void costs() {
        CHECK.about("promise 20");
        Desk desk = least("A(x)", "3*#1-2*x+5");
        desk.set(0, 4);
        desk.set(1, -10);
        CHECK.due("cost()", desk.cost(), -33);
        desk = Desk.of("L(x,y)-S(y)*p");
        desk.objective(desk.nodes() - 1, false);
        desk.compile();
        desk.set(0, -3);
        desk.set(1, 5);
        desk.lift();
        CHECK.due("cost() to be greatest", desk.cost(), 3);
        desk.set(4, 2);
        CHECK.due("cost() by the parameter as it is now", desk.cost(), 53);
    }

    private static void greatNumbers() {
        CHECK.about("promise 20, great numbers");
        Desk desk = least("999*50*A(x)");
        int aux = 4;
        CHECK.due("set", desk.set(aux, 1000000), true);
        CHECK.due("cost() beyond an int", desk.cost(), 49950000000L);
        desk.set(aux, -1000000);
        CHECK.due("cost() below an int", desk.cost(), -49950000000L);
        CHECK.about("promise 19, great numbers");
        desk = least("A(x)", "S(50*#1)");
        CHECK.due("reach", desk.reach(4), 1000000);
        desk.set(4, 1000000);
        fitsAt(desk, 1, 20, true);
        fitsAt(desk, 1, 21, false);
        fitsAt(desk, 1, 1000000, false);
        desk.set(1, 65536);
        CHECK.due("fits(): 2 * 50 * 65536 squared", desk.fits(), false);
    }

    /** All 36 nodes, 35 of them PAIRS, and six requirements: the most rows that there can be. */
    private static void fullDesk() {
        CHECK.about("promises 14 to 21 on a full desk");
        Desk desk = Desk.of("x");
        for (int k = 0; k < 35; k++) {
            CHECK.due("read()", desk.read("P(x,x,#" + k + ")"), k + 1);
        }
        desk.objective(35, true);
        for (int j = 0; j < 6; j++) {
            desk.require(j > 3, 0, 0);
        }
        CHECK.due("compile()", desk.compile(), 36);
        rowCounts(desk, 2, 109, 0);
        CHECK.due("set(0, 2)", desk.set(0, 2), true);
        CHECK.due("value(35)", desk.value(35), 72);
        CHECK.due("feasible()", desk.feasible(), true);
        CHECK.due("fits()", desk.fits(), false);
        CHECK.due("lift()", desk.lift(), true);
        CHECK.due("fits()", desk.fits(), true);
        CHECK.due("cost()", desk.cost(), 72);
        for (int k = 1; k <= 35; k++) {
            Desk twin = desk.again();
            int last = 6 + 3 * (k - 1) + 2;
            CHECK.due("column(" + k + ")", twin.column(k), k);
            CHECK.due("entry(" + last + ", " + k + ")", twin.entry(last, k), 1);
            CHECK.due("entry(" + last + ", 0)", twin.entry(last, 0), k == 1 ? -2 : -1);
            CHECK.due("entry(" + last + ", " + (k - 1) + ")", twin.entry(last, k - 1), k == 1 ? -2 : -1);
        }
        CHECK.due("entry(111, 35): there is no such row", desk.entry(111, 35), 0);
        CHECK.due("set(35, 71)", desk.set(35, 71), true);
        CHECK.due("fits(): the last rows", desk.fits(), false);
    }
}
