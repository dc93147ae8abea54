/** The edges that 'Terms' and promises 15 to 20 name for the form. */
public final class FormEdgesTest {
    private static final Check CHECK = new Check();
    private static final int OWN_LIMIT = 1000000;
    private static final int[] ENDS = {Integer.MIN_VALUE, Integer.MIN_VALUE + 1, Integer.MAX_VALUE - 1,
        Integer.MAX_VALUE};

    public static void main(String[] args) {
        otherCones();
        rowsWithoutAForm();
        threeRowsForEachSquare();
        rowsWhenThereAreNone();
        rowsOfAllCones();
        rowsOutside();
        columnsOutside();
        rowAndColumnOutside();
        constantInColumnMinusOne();
        firstAndLastRowOfEachKind();
        costRowMinusOne();
        entryWithoutAForm();
        parametersAsTheyAreNow();
        productByZero();
        greatestEntries();
        columnOfOtherNodes();
        columnWithoutAForm();
        columnOrder();
        inUseFarBelow();
        liftWithoutAForm();
        liftWithoutAuxiliaries();
        liftOfEachAuxiliary();
        fitsWithoutAForm();
        fitsWithoutRows();
        coneZeroAtItsEdge();
        coneOneAtItsEdge();
        coneTwoAtItsEdge();
        eachRowCounts();
        exactSquares();
        exactGreatRows();
        costWithoutAForm();
        costBeyondAnInt();
        formOfAFullDesk();
        CHECK.finish();
    }

    /** A desk whose form has the last text's node as its objective, to be least. */
    private static Desk least(String... texts) {
        Desk desk = Desk.of(texts);
        desk.objective(desk.read(texts[texts.length - 1]), true);
        if (desk.compile() < 0) {
            throw new IllegalArgumentException("the test's own problem is refused");
        }
        return desk;
    }

    private static void otherCones() {
        CHECK.about("promise 15, '0 for any other number'");
        Desk desk = Desk.busy();
        CHECK.due("rows(0)", desk.rows(0), 1);
        CHECK.due("rows(1)", desk.rows(1), 4);
        CHECK.due("rows(2)", desk.rows(2), 3);
        for (int cone : new int[] {-3, -2, -1, 3, 4, 5, 36, 256, 65536, 1 << 30}) {
            CHECK.due("rows(" + cone + ")", desk.rows(cone), 0);
        }
        for (int cone : ENDS) {
            CHECK.due("rows(" + cone + ")", desk.rows(cone), 0);
        }
    }

    private static void rowsWithoutAForm() {
        CHECK.about("promise 15, 'or when no form stands'");
        Desk desk = Desk.busy();
        desk.objective(4, true);
        for (int cone = -1; cone <= 3; cone++) {
            CHECK.due("rows(" + cone + ") after objective", desk.rows(cone), 0);
            CHECK.due("rows(" + cone + ") of a new object", new Desk().rows(cone), 0);
        }
    }

    private static void threeRowsForEachSquare() {
        CHECK.about("promise 15, '(three for each SQUARE)'");
        CHECK.due("rows(2) of none", least("A(x)").rows(2), 0);
        CHECK.due("rows(2) of one", least("S(x)").rows(2), 3);
        CHECK.due("rows(2) of two", least("S(x)+S(y)").rows(2), 6);
        CHECK.due("rows(2) of one that is there twice", least("S(x)+S(x)").rows(2), 3);
        CHECK.due("rows(2) of one that is CONSTANT", least("S(x)+S(p)").rows(2), 3);
        CHECK.due("rows(1)", least("S(x)+S(y)").rows(1), 0);
    }

    private static void rowsWhenThereAreNone() {
        CHECK.about("promise 15, a form without rows");
        Desk desk = least("2*x+1");
        for (int cone = 0; cone <= 2; cone++) {
            CHECK.due("rows(" + cone + ")", desk.rows(cone), 0);
        }
        CHECK.due("entry(0, -1)", desk.entry(0, -1), 0);
        CHECK.due("entry(0, 0)", desk.entry(0, 0), 0);
        CHECK.due("entry(-1, 0)", desk.entry(-1, 0), 2);
    }

    private static void rowsOfAllCones() {
        CHECK.about("promise 15, 'How many rows of the form lie in cone 0, 1 or 2', where there are many");
        Desk desk = Desk.of("S(u)+S(v)+S(w)", "S(x)+S(y)+S(z)", "P(u,v,w)+P(x,y,z)");
        desk.objective(desk.read("#7+#15+#18"), true);
        for (int j = 0; j < 6; j++) {
            desk.require(j % 2 == 0, 0, 2);
        }
        CHECK.due("compile()", desk.compile(), 14);
        CHECK.due("rows(0)", desk.rows(0), 3);
        CHECK.due("rows(1)", desk.rows(1), 3 + 6);
        CHECK.due("rows(2)", desk.rows(2), 18);
        CHECK.due("entry(29, 5): the last row", desk.entry(29, 5), 2);
        CHECK.due("entry(30, 5)", desk.entry(30, 5), 0);
        CHECK.due("fits()", desk.fits(), true);
    }

    private static void rowsOutside() {
        CHECK.about("promise 16, 'no such row or column': the row");
        Desk desk = Desk.busy();
        for (int row : new int[] {-3, -2, 8, 9, 36, 113, 114, 115, 65536, 1 << 30}) {
            for (int column = -1; column < 4; column++) {
                CHECK.due("entry(" + row + ", " + column + ")", desk.entry(row, column), 0);
            }
        }
        for (int row : ENDS) {
            for (int column = -1; column < 4; column++) {
                CHECK.due("entry(" + row + ", " + column + ")", desk.entry(row, column), 0);
            }
        }
        CHECK.due("entry(7, 1): the last row", desk.entry(7, 1), 2);
        CHECK.due("entry(-1, 3): the cost row", desk.entry(-1, 3), 1);
    }

    private static void columnsOutside() {
        CHECK.about("promise 16, 'no such row or column': the column");
        Desk desk = least("7+x+A(x)");
        for (int column : new int[] {-3, -2, 2, 3, 35, 36, 37, 65536, 1 << 30}) {
            for (int row = -1; row < 2; row++) {
                CHECK.due("entry(" + row + ", " + column + ")", desk.entry(row, column), 0);
            }
        }
        for (int column : ENDS) {
            for (int row = -1; row < 2; row++) {
                CHECK.due("entry(" + row + ", " + column + ")", desk.entry(row, column), 0);
            }
        }
        CHECK.due("entry(-1, 1): the last column", desk.entry(-1, 1), 1);
        CHECK.due("entry(-1, 0)", desk.entry(-1, 0), 1);
    }

    private static void rowAndColumnOutside() {
        CHECK.about("promise 16, 'no such row or column': both");
        Desk desk = least("7+x+A(x)");
        for (int row : new int[] {Integer.MIN_VALUE, -2, 2, Integer.MAX_VALUE}) {
            for (int column : new int[] {Integer.MIN_VALUE, -2, 2, Integer.MAX_VALUE}) {
                CHECK.due("entry(" + row + ", " + column + ")", desk.entry(row, column), 0);
            }
        }
    }

    private static void constantInColumnMinusOne() {
        CHECK.about("promise 16, 'its constant when column is -1'");
        Desk desk = Desk.of("A(x-6)", "S(x+4)", "#3+#6+11", "9");
        desk.objective(9, true);
        desk.require(true, 0, 10);
        desk.require(false, 2, 10);
        CHECK.due("compile()", desk.compile(), 3);
        int[] constants = {-9, 15, 6, -6, 1, 1, 8};
        for (int row = 0; row < constants.length; row++) {
            CHECK.due("entry(" + row + ", -1)", desk.entry(row, -1), constants[row]);
        }
        CHECK.due("entry(-1, -1)", desk.entry(-1, -1), 11);
        CHECK.due("entry(7, -1)", desk.entry(7, -1), 0);
        desk.set(0, 13);
        desk.lift();
        for (int row = 0; row < constants.length; row++) {
            CHECK.due("entry(" + row + ", -1) whatever the columns' values", desk.entry(row, -1), constants[row]);
        }
    }

    /** The row's constant, then its numbers for all columns. */
    private static void row(Desk desk, int row, int... numbers) {
        for (int column = -1; column < numbers.length - 1; column++) {
            CHECK.due("entry(" + row + ", " + column + ")", desk.entry(row, column), numbers[column + 1]);
        }
        CHECK.due("entry(" + row + ") behind the last column", desk.entry(row, numbers.length - 1), 0);
    }

    private static void firstAndLastRowOfEachKind() {
        CHECK.about("Terms, 'MAX: t - a, t - b; MIN: a - t, b - t; ABS: t - a, t + a; PAIRS' and cone 2's 'three rows'");
        Desk desk = least("M(x+1,y*2)");
        row(desk, 0, -1, -1, 0, 1);
        row(desk, 1, 0, 0, -2, 1);
        row(desk, 2, 0, 0, 0, 0);
        desk = Desk.of("L(x+1,y*2)");
        desk.objective(desk.nodes() - 1, false);
        desk.compile();
        row(desk, 0, 1, 1, 0, -1);
        row(desk, 1, 0, 0, 2, -1);
        row(desk, 2, 0, 0, 0, 0);
        desk = least("A(x*3-4)");
        row(desk, 0, 4, -3, 1);
        row(desk, 1, -4, 3, 1);
        row(desk, 2, 0, 0, 0);
        desk = least("P(x+1,2*y,z-4)");
        row(desk, 0, -1, -1, -2, 0, 1);
        row(desk, 1, 3, -1, 0, -1, 1);
        row(desk, 2, 4, 0, -2, -1, 1);
        row(desk, 3, 0, 0, 0, 0, 0);
        desk = least("S(x*3-4)");
        row(desk, 0, 1, 0, 1);
        row(desk, 1, 1, 0, -1);
        row(desk, 2, -8, 6, 0);
        row(desk, 3, 0, 0, 0);
    }

    private static void costRowMinusOne() {
        CHECK.about("promise 16, 'row -1 is the cost row'; Terms, 'what is opposite to it if greatest'");
        Desk desk = Desk.of("3*x-2*y+4");
        int sum = desk.nodes() - 1;
        for (boolean least : new boolean[] {true, false}) {
            int sign = least ? 1 : -1;
            desk.objective(sum, least);
            desk.compile();
            CHECK.due("entry(-1, -1)", desk.entry(-1, -1), 4 * sign);
            CHECK.due("entry(-1, 0)", desk.entry(-1, 0), 3 * sign);
            CHECK.due("entry(-1, 1)", desk.entry(-1, 1), -2 * sign);
            CHECK.due("entry(-1, 2)", desk.entry(-1, 2), 0);
            CHECK.due("entry(-2, 0)", desk.entry(-2, 0), 0);
        }
    }

    private static void entryWithoutAForm() {
        CHECK.about("promise 16, 'or no form stands'");
        Desk desk = Desk.busy();
        desk.require(true, 0, 0);
        for (int end : ENDS) {
            CHECK.due("entry(" + end + ", -1)", desk.entry(end, -1), 0);
            CHECK.due("entry(-1, " + end + ")", desk.entry(-1, end), 0);
            CHECK.due("rows(" + end + ")", desk.rows(end), 0);
            CHECK.due("column(" + end + ")", desk.column(end), -1);
        }
        for (int row = -2; row <= 8; row++) {
            for (int column = -2; column <= 4; column++) {
                CHECK.due("entry(" + row + ", " + column + ")", desk.entry(row, column), 0);
            }
        }
    }

    private static void parametersAsTheyAreNow() {
        CHECK.about("promise 16, 'by the parameters' values as they are now'");
        Desk desk = least("r*x+p*A(x)+q");
        int r = 0;
        int p = 3;
        int q = 7;
        for (int v = 0; v <= 9; v++) {
            desk.set(r, v);
            desk.set(p, v);
            desk.set(q, -v);
            CHECK.due("entry(-1, 0)", desk.entry(-1, 0), v);
            CHECK.due("entry(-1, 1)", desk.entry(-1, 1), v);
            CHECK.due("entry(-1, -1)", desk.entry(-1, -1), -v);
            desk.set(r, -v);
            CHECK.due("entry(-1, 0)", desk.entry(-1, 0), -v);
        }
        CHECK.refused("set(r, 10)", desk, d -> d.set(r, 10));
        CHECK.due("entry(-1, 0)", desk.entry(-1, 0), -9);
        desk.set(1, 17);
        CHECK.due("entry(-1, 0): not by the variables'", desk.entry(-1, 0), -9);
    }

    private static void productByZero() {
        CHECK.about("Terms, a PRODUCT by 0 keeps what is below it in use");
        Desk desk = least("0*x+y");
        CHECK.due("compile()", desk.compile(), 2);
        CHECK.due("column of x", desk.column(1), 0);
        CHECK.due("entry(-1, 0)", desk.entry(-1, 0), 0);
        CHECK.due("entry(-1, 1)", desk.entry(-1, 1), 1);
        desk = least("p*S(x)");
        CHECK.due("compile(): p is 0", desk.compile(), 2);
        CHECK.due("rows(2)", desk.rows(2), 3);
        CHECK.due("entry(-1, 1)", desk.entry(-1, 1), 0);
        desk.set(2, 1);
        desk.set(1, 2);
        CHECK.due("fits(): its rows count all the same", desk.fits(), false);
    }

    private static void greatestEntries() {
        CHECK.about("promise 16, numbers as great as the reach allows");
        Desk desk = least("500*100*x");
        CHECK.due("entry(-1, 0)", desk.entry(-1, 0), 50000);
        desk = least("-(100*100*100)");
        CHECK.due("entry(-1, -1)", desk.entry(-1, -1), -1000000);
        desk = Desk.of("100*100*100", "-#2");
        desk.objective(0, true);
        desk.require(false, 2, 3);
        desk.require(true, 2, 3);
        desk.compile();
        CHECK.due("entry(0, -1)", desk.entry(0, -1), 2000000);
        CHECK.due("entry(1, -1)", desk.entry(1, -1), -2000000);
        desk = least("S(50*x)");
        CHECK.due("entry(2, 0)", desk.entry(2, 0), 100);
        desk = least("S(x+980)");
        CHECK.due("entry(2, -1)", desk.entry(2, -1), 1960);
    }

    private static void columnOfOtherNodes() {
        CHECK.about("promise 17, '-1 for any other k'");
        Desk desk = Desk.of("A(x)", "S(y)", "M(p,2)", "x+2", "-#1", "2*#1", "#1-x", "#8+#6", "L(z,2)");
        int[] columns = {0, 1, -1, -1, -1, -1, -1, -1, -1, -1, -1, -1, -1, -1};
        desk.objective(9, true);
        CHECK.due("compile()", desk.compile(), 2);
        int nodes = desk.nodes();
        CHECK.due("nodes()", nodes, columns.length);
        for (int k = 0; k < nodes; k++) {
            CHECK.due("column(" + k + ")", desk.column(k), columns[k]);
        }
        for (int k : new int[] {-36, -2, -1, nodes, nodes + 1, 35, 36, 37, 65536, 1 << 30}) {
            CHECK.due("column(" + k + ")", desk.column(k), -1);
        }
        for (int k : ENDS) {
            CHECK.due("column(" + k + ")", desk.column(k), -1);
        }
    }

    private static void columnWithoutAForm() {
        CHECK.about("promise 17, 'or when no form stands'");
        CHECK.due("column(0) of a new object", new Desk().column(0), -1);
        Desk desk = Desk.busy();
        desk.withdraw(0);
        for (int k = 0; k < 11; k++) {
            CHECK.due("column(" + k + ")", desk.column(k), -1);
        }
    }

    private static void columnOrder() {
        CHECK.about("Terms, 'first the variables in use, in the order of their nodes; then the AUXILIARIES'");
        Desk desk = least("A(z)", "S(x)+A(x)+#1");
        int[] columns = {0, 2, 1, 3, 4, -1, -1};
        for (int k = 0; k < columns.length; k++) {
            CHECK.due("column(" + k + ")", desk.column(k), columns[k]);
        }
        desk.objective(3, true);
        CHECK.due("compile(): x and S(x)", desk.compile(), 2);
        CHECK.due("column(0)", desk.column(0), -1);
        CHECK.due("column(2)", desk.column(2), 0);
        CHECK.due("column(3)", desk.column(3), 1);
    }

    private static void inUseFarBelow() {
        CHECK.about("Terms, 'IN USE are the parts, their arguments, the arguments of these, and so on'");
        Desk desk = Desk.full();
        desk.objective(19, true);
        CHECK.due("compile(): x below 19 negations", desk.compile(), 1);
        CHECK.due("column(0)", desk.column(0), 0);
        CHECK.due("entry(-1, 0)", desk.entry(-1, 0), -1);
        desk.objective(20, true);
        CHECK.due("compile(): a number alone", desk.compile(), 0);
        desk.require(false, 35, 34);
        CHECK.due("compile(): A(x) in a requirement", desk.compile(), 2);
        desk.withdraw(0);
        desk.require(false, 20, 19);
        CHECK.due("compile(): x below b", desk.compile(), 1);
    }

    private static void liftWithoutAForm() {
        CHECK.about("promise 18, 'False when no form stands'");
        CHECK.refused("lift() of a new object", new Desk(), Desk::lift);
        Desk desk = Desk.busy();
        desk.objective(4, true);
        CHECK.refused("lift() after objective", desk, Desk::lift);
        desk = Desk.busy();
        desk.objective(9, true);
        desk.compile();
        CHECK.refused("lift() after a refused compile", desk, Desk::lift);
    }

    private static void liftWithoutAuxiliaries() {
        CHECK.about("promise 18, a form without auxiliaries");
        Desk desk = least("x+1");
        CHECK.due("lift()", desk.lift(), true);
        CHECK.due("cost()", desk.cost(), 1);
        desk = least("7");
        CHECK.due("lift()", desk.lift(), true);
    }

    private static void liftOfEachAuxiliary() {
        CHECK.about("promise 18, 'The own value of each auxiliary becomes the value of its node'");
        Desk desk = Desk.of("x", "y", "A(x)", "S(y)", "M(x,y)", "P(x,y,1)", "#2+#3+#4+#6");
        desk.objective(9, true);
        desk.compile();
        desk.set(0, -9);
        desk.set(1, 5);
        desk.set(4, OWN_LIMIT);
        CHECK.due("lift()", desk.lift(), true);
        CHECK.due("cost()", desk.cost(), 9 + 25 + 5 + 6);
        CHECK.due("value(0): lift leaves it", desk.value(0), -9);
        CHECK.due("fits()", desk.fits(), true);
        desk.set(1, 6);
        CHECK.due("cost(): own values stay till the next lift", desk.cost(), 45);
        CHECK.due("lift() again", desk.lift(), true);
        CHECK.due("cost()", desk.cost(), 9 + 36 + 6 + 7);
    }

    private static void fitsWithoutAForm() {
        CHECK.about("promise 19, 'Whether a form stands'");
        CHECK.due("fits() of a new object", new Desk().fits(), false);
        Desk desk = Desk.of("x");
        desk.objective(0, true);
        CHECK.due("fits() before compile", desk.fits(), false);
        desk.compile();
        CHECK.due("fits() after compile", desk.fits(), true);
        desk.objective(0, true);
        CHECK.due("fits() after objective", desk.fits(), false);
    }

    private static void fitsWithoutRows() {
        CHECK.about("promise 19, a form without rows fits");
        Desk desk = least("x");
        for (int v : new int[] {-20, 0, 20}) {
            desk.set(0, v);
            CHECK.due("fits()", desk.fits(), true);
        }
        CHECK.due("fits() without columns", least("7").fits(), true);
    }

    private static void coneZeroAtItsEdge() {
        CHECK.about("Terms, 'Cone 0 (each row must be 0)'");
        Desk desk = Desk.of("x", "3");
        desk.objective(0, true);
        desk.require(true, 0, 1);
        desk.compile();
        for (int x = -20; x <= 20; x++) {
            desk.set(0, x);
            CHECK.due("fits() at x = " + x, desk.fits(), x == 3);
        }
    }

    private static void coneOneAtItsEdge() {
        CHECK.about("Terms, 'cone 1 (each row must be at least 0)'");
        Desk desk = Desk.of("x", "3");
        desk.objective(0, true);
        desk.require(false, 0, 1);
        desk.compile();
        for (int x = -20; x <= 20; x++) {
            desk.set(0, x);
            CHECK.due("fits() at x = " + x, desk.fits(), x <= 3);
        }
        for (String text : new String[] {"M(x,y)", "L(x,y)", "A(x)", "P(x,y,1)"}) {
            edgeOf(text);
        }
    }

    /** The own value that fits is the node's value and what lies on one side of it. */
    private static void edgeOf(String text) {
        Desk desk = Desk.of("x", "y", text);
        int node = desk.nodes() - 1;
        int side = text.charAt(0) == 'L' ? -1 : 1;
        desk.objective(node, side > 0);
        desk.compile();
        for (int x : new int[] {-20, -4, -3, 3, 4, 20}) {
            desk.set(0, x);
            desk.set(1, 3);
            for (int off : new int[] {-1, 0, 1}) {
                desk.set(node, desk.value(node) + off * side);
                CHECK.due("fits() of " + text + " at x = " + x + ", " + off + " beside it", desk.fits(), off >= 0);
            }
        }
    }

    private static void coneTwoAtItsEdge() {
        CHECK.about("Terms, 'its square at least the sum of the squares of the two others'");
        Desk desk = least("S(x)");
        for (int x = -20; x <= 20; x++) {
            desk.set(0, x);
            desk.set(1, x * x);
            CHECK.due("fits() at x = " + x + " with the square", desk.fits(), true);
            desk.set(1, x * x - 1);
            CHECK.due("fits() at x = " + x + " with 1 less", desk.fits(), false);
            desk.set(1, x * x + 1);
            CHECK.due("fits() at x = " + x + " with 1 more", desk.fits(), true);
        }
        desk = least("S(x)");
        for (int own : new int[] {-1, -2, -3, -400, 1 - OWN_LIMIT, -OWN_LIMIT}) {
            desk.set(1, own);
            CHECK.due("fits() with the first row " + (1 + own), desk.fits(), false);
        }
        desk.set(1, OWN_LIMIT);
        CHECK.due("fits() with the greatest own value", desk.fits(), true);
    }

    /** Where all fits, each own value that is 1 off its node's value makes that row alone unfit. */
    private static void eachRowCounts() {
        CHECK.about("promise 19, 'all its rows are as their cones ask'");
        Desk desk = Desk.of("x", "y", "A(x)", "A(y)", "M(x,1)", "S(x)", "S(y)", "#2+#3+#5+#6+#7");
        int[] auxiliaries = {2, 3, 5, 6, 7};
        desk.objective(desk.nodes() - 1, true);
        desk.compile();
        desk.set(0, 6);
        desk.set(1, -6);
        desk.lift();
        CHECK.due("fits()", desk.fits(), true);
        for (int k : auxiliaries) {
            Desk twin = desk.again();
            twin.set(k, twin.value(k) - 1);
            CHECK.due("fits() with less for node " + k, twin.fits(), false);
            twin.set(k, twin.value(k));
            CHECK.due("fits() with enough for node " + k, twin.fits(), true);
        }
        for (int bad = 0; bad < 6; bad++) {
            desk = Desk.of("x", "1");
            desk.objective(0, true);
            for (int j = 0; j < 6; j++) {
                desk.require(j == bad, j == bad ? 1 : 0, j == bad ? 0 : 1);
            }
            desk.compile();
            CHECK.due("fits() when requirement " + bad + " alone does not hold", desk.fits(), false);
            desk.set(0, 1);
            CHECK.due("fits() when all hold", desk.fits(), true);
        }
    }

    /**
     * By its reach a SQUARE's argument is at most 50 times a column, so 2 * a is at most 100000000: the
     * squares that there can be go beyond 32 bits, not beyond 64. The greatest are among these.
     */
    private static void exactSquares() {
        CHECK.about("Terms, 'All of this is exact, also where squares are beyond 64 bits'");
        Desk desk = least("S(50*x)");
        int square = 3;
        for (int x = -20; x <= 20; x++) {
            int due = 2500 * x * x;
            desk.set(1, x);
            desk.set(square, due);
            CHECK.due("fits() at x = " + x, desk.fits(), true);
            desk.set(square, due - 1);
            CHECK.due("fits() at x = " + x + " with 1 less", desk.fits(), false);
        }
        desk = least("A(x)", "S(50*#1)");
        square = 4;
        for (int own : new int[] {OWN_LIMIT, -OWN_LIMIT, OWN_LIMIT - 1, 65536, -65536, 32768, 16384, 21, -21}) {
            desk.set(1, own);
            for (int t : new int[] {0, 1, 65535, 65536, OWN_LIMIT, -OWN_LIMIT}) {
                desk.set(square, t);
                CHECK.due("fits() with own values " + own + " and " + t, desk.fits(), false);
            }
        }
        desk.set(1, 20);
        desk.set(square, OWN_LIMIT);
        CHECK.due("fits() with 1000 and its square", desk.fits(), true);
        desk.set(square, OWN_LIMIT - 1);
        CHECK.due("fits() with 1000 and 1 less", desk.fits(), false);
        desk.set(1, 21);
        desk.set(square, OWN_LIMIT);
        CHECK.due("fits() with 1050 and 1000000", desk.fits(), false);
    }

    private static void exactGreatRows() {
        CHECK.about("Terms, 'All of this is exact': rows beyond an int");
        Desk desk = Desk.of("A(x)", "500*100*#1", "7");
        desk.objective(0, true);
        desk.require(false, 5, 6);
        desk.compile();
        desk.set(1, 0);
        CHECK.due("fits(): 0 <= 7", desk.fits(), true);
        for (int own : new int[] {OWN_LIMIT, 42950, 65536, 85900, 131072}) {
            desk.set(1, own);
            CHECK.due("fits(): 50000 * " + own + " <= 7", desk.fits(), false);
        }
        desk = Desk.of("L(x,1)", "500*100*#2", "7");
        desk.objective(0, true);
        desk.require(false, 7, 6);
        CHECK.due("nodes()", desk.nodes(), 8);
        CHECK.due("compile()", desk.compile(), 2);
        for (int own : new int[] {0, -1, -OWN_LIMIT}) {
            desk.set(2, own);
            CHECK.due("fits(): 7 <= 50000 * " + own, desk.fits(), false);
        }
    }

    private static void costWithoutAForm() {
        CHECK.about("promise 20, '0 when no form stands'");
        CHECK.due("cost() of a new object", new Desk().cost(), 0);
        Desk desk = Desk.of("7");
        desk.objective(0, true);
        CHECK.due("cost() before compile", desk.cost(), 0);
        desk.compile();
        CHECK.due("cost()", desk.cost(), 7);
        desk.require(true, 0, 0);
        CHECK.due("cost() after require", desk.cost(), 0);
    }

    private static void costBeyondAnInt() {
        CHECK.about("promise 20, 'The value of the cost row', beyond an int");
        Desk desk = least("500*100*A(x)");
        int aux = 4;
        for (int own : new int[] {OWN_LIMIT, -OWN_LIMIT, 42950, -42950, 85899}) {
            CHECK.due("set(" + aux + ", " + own + ")", desk.set(aux, own), true);
            CHECK.due("cost()", desk.cost(), 50000L * own);
        }
        desk = Desk.of("500*100*L(x,y)");
        desk.objective(desk.nodes() - 1, false);
        desk.compile();
        desk.set(5, -OWN_LIMIT);
        CHECK.due("cost() to be greatest", desk.cost(), 50000000000L);
        desk.set(5, OWN_LIMIT);
        CHECK.due("cost() to be greatest", desk.cost(), -50000000000L);
    }

    private static void formOfAFullDesk() {
        CHECK.about("promises 8 and 14 to 21, with 36 nodes, the last an auxiliary");
        Desk desk = Desk.full();
        desk.objective(35, true);
        desk.require(false, 19, 34);
        CHECK.due("compile()", desk.compile(), 2);
        CHECK.due("column(35)", desk.column(35), 1);
        CHECK.due("rows(1)", desk.rows(1), 3);
        row(desk, 0, 36, 1, 0);
        row(desk, 1, 0, -1, 1);
        row(desk, 2, 0, 1, 1);
        CHECK.due("set(0, 20)", desk.set(0, 20), true);
        CHECK.due("fits()", desk.fits(), false);
        CHECK.due("lift()", desk.lift(), true);
        CHECK.due("fits()", desk.fits(), true);
        CHECK.due("cost()", desk.cost(), 20);
        CHECK.due("set(35, 19)", desk.set(35, 19), true);
        CHECK.due("fits()", desk.fits(), false);
        CHECK.due("cost()", desk.cost(), 19);
        CHECK.due("feasible()", desk.feasible(), true);
        CHECK.refused("set(36, 0)", desk, d -> d.set(36, 0));
    }
}
