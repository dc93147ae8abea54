/** Promises 8 and 9: set and value. */
public final class ValueTest {
    private static final Check CHECK = new Check();

    public static void main(String[] args) {
        ranges();
        notToBeSet();
        ownValues();
        kinds();
        valuesFollow();
        CHECK.finish();
    }

    private static void range(String letter, int least, int greatest) {
        Desk desk = Desk.of(letter);
        CHECK.due("value(0) of " + letter + " at first", desk.value(0), 0);
        for (int v = -30; v <= 30; v++) {
            boolean within = v >= least && v <= greatest;
            int before = desk.value(0);
            CHECK.due("set(0, " + v + ") of " + letter, desk.set(0, v), within);
            CHECK.due("value(0) of " + letter, desk.value(0), within ? v : before);
        }
        CHECK.due("set(0, least int) of " + letter, desk.set(0, Integer.MIN_VALUE), false);
        CHECK.due("set(0, greatest int) of " + letter, desk.set(0, Integer.MAX_VALUE), false);
    }

    private static void ranges() {
        CHECK.about("promise 8");
        for (char c = 'u'; c <= 'z'; c++) {
            range(String.valueOf(c), -20, 20);
        }
        range("p", 0, 9);
        range("q", -9, 0);
        range("r", -9, 9);
    }

    private static void notToBeSet() {
        CHECK.about("promise 8");
        Desk desk = Desk.of("5", "x", "x+5", "A(x)");
        CHECK.due("set of a number", desk.set(0, 5), false);
        CHECK.due("set of a sum", desk.set(2, 0), false);
        CHECK.due("set of an ABS without a form", desk.set(3, 0), false);
        for (int k : new int[] {-1, 4, 36, Integer.MIN_VALUE, Integer.MAX_VALUE}) {
            CHECK.due("set(" + k + ", 0)", desk.set(k, 0), false);
            CHECK.due("value(" + k + ")", desk.value(k), 0);
        }
        CHECK.due("value(0)", desk.value(0), 5);
    }

    private static void ownValues() {
        CHECK.about("promise 8");
        Desk desk = Desk.of("A(x)", "S(x)", "A(p)+#1", "#1+1");
        int constant = 4;
        int sum = 5;
        CHECK.due("set(1, 3) without a form", desk.set(1, 3), false);
        desk.objective(sum, true);
        CHECK.due("compile()", desk.compile(), 2);
        CHECK.due("set(1, 3)", desk.set(1, 3), true);
        CHECK.due("set(1, 1000000)", desk.set(1, 1000000), true);
        CHECK.due("set(1, 1000001)", desk.set(1, 1000001), false);
        CHECK.due("set(1, -1000000)", desk.set(1, -1000000), true);
        CHECK.due("set(1, -1000001)", desk.set(1, -1000001), false);
        CHECK.due("cost() by the own value", desk.cost(), -1000000);
        CHECK.due("set of a SQUARE not in use", desk.set(2, 0), false);
        CHECK.due("set of a CONSTANT ABS in use", desk.set(constant, 0), false);
        CHECK.due("set of a SUM in use", desk.set(sum, 0), false);
        CHECK.about("promise 9");
        CHECK.due("value(1) is not the own value", desk.value(1), 0);
        CHECK.about("promise 8");
        int later = desk.read("M(x,2)");
        CHECK.due("set of a MAX read after compile", desk.set(later, 1), false);
        desk.objective(sum, true);
        CHECK.due("set(1, 3) after the form was dropped", desk.set(1, 3), false);
        desk.set(0, 20);
        CHECK.due("set(0, 7) of a variable needs no form", desk.set(0, 7), true);
    }

    private static void kind(String text, int x, int y, int value) {
        Desk desk = Desk.of("x", "y", "z");
        desk.set(0, x);
        desk.set(1, y);
        desk.set(2, 3);
        int node = desk.read(text);
        CHECK.due(text + " at x = " + x + ", y = " + y, desk.value(node), value);
    }

    private static void kinds() {
        CHECK.about("promise 9");
        kind("x+y", 7, -9, -2);
        kind("x-y", 7, -9, 16);
        kind("-x", 7, 0, -7);
        kind("x*y", 7, -9, -63);
        kind("M(x,y)", 7, -9, 7);
        kind("M(x,y)", -9, 7, 7);
        kind("L(x,y)", 7, -9, -9);
        kind("L(x,y)", -9, 7, -9);
        kind("A(x)", -9, 0, 9);
        kind("A(x)", 9, 0, 9);
        kind("S(x)", -9, 0, 81);
        kind("P(x,y,z)", 1, 2, 5);
        kind("P(x,y,z)", 9, 2, 12);
        kind("P(x,y,z)", 9, 8, 17);
        kind("P(x,y,z)", -9, -8, -5);
        kind("P(z,x,y)", -9, -8, -5);
        kind("S(x*y)", 20, 20, 160000);
        kind("12", 0, 0, 12);
    }

    private static void valuesFollow() {
        CHECK.about("promise 9");
        Desk desk = Desk.of("p*x+q*S(y)-r");
        int whole = desk.nodes() - 1;
        CHECK.due("value at first", desk.value(whole), 0);
        CHECK.due("set(0, 3)", desk.set(0, 3), true);
        CHECK.due("set(1, -20)", desk.set(1, -20), true);
        CHECK.due("value", desk.value(whole), -60);
        CHECK.due("set(3, -2)", desk.set(3, -2), true);
        CHECK.due("set(4, 5)", desk.set(4, 5), true);
        CHECK.due("value", desk.value(whole), -110);
        CHECK.due("set(8, 9)", desk.set(8, 9), true);
        CHECK.due("value", desk.value(whole), -119);
        CHECK.due("a refused set", desk.set(8, 10), false);
        CHECK.due("value", desk.value(whole), -119);
        CHECK.due("set(0, 0)", desk.set(0, 0), true);
        CHECK.due("value", desk.value(whole), -59);
        CHECK.due("a node made later has the value at once", desk.value(desk.read("-#" + whole)), 59);
    }
}
