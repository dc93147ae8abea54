/** The edges that 'Terms' and promise 8 name for set. */
public final class SetEdgesTest {
    private static final Check CHECK = new Check();
    private static final int OWN_LIMIT = 1000000;
    private static final int[] FAR = {Integer.MIN_VALUE, Integer.MIN_VALUE + 1, -1000001, -65536, -256, 256, 65536,
        1000001, Integer.MAX_VALUE - 1, Integer.MAX_VALUE};

    public static void main(String[] args) {
        variables();
        parameters();
        parameterP();
        parameterQ();
        variablesWhileAFormStands();
        ownValues();
        ownValuesOfEachKind();
        ownValuesWithoutAForm();
        ownValuesWhenTheFormIsDropped();
        auxiliariesNotInUse();
        constantNodesInUse();
        nodesMadeLater();
        otherKinds();
        noSuchNode();
        CHECK.finish();
    }

    /** Each value from least to greatest goes, and no other. */
    private static void range(Desk desk, int k, int least, int greatest) {
        for (int v = least; v <= greatest; v++) {
            CHECK.due("set(" + k + ", " + v + ")", desk.set(k, v), true);
            CHECK.due("value(" + k + ")", desk.value(k), v);
        }
        for (int v : new int[] {least, greatest}) {
            desk.set(k, v);
            CHECK.refused("set(" + k + ", " + (least - 1) + ")", desk, d -> d.set(k, least - 1));
            CHECK.refused("set(" + k + ", " + (greatest + 1) + ")", desk, d -> d.set(k, greatest + 1));
        }
        for (int v : FAR) {
            CHECK.refused("set(" + k + ", " + v + ")", desk, d -> d.set(k, v));
        }
    }

    private static void variables() {
        CHECK.about("promise 8, 'a variable (v from -20 to 20)'");
        for (char letter : "uvwxyz".toCharArray()) {
            range(Desk.of(letter + "+1"), 0, -20, 20);
        }
    }

    private static void parameters() {
        CHECK.about("promise 8, 'a parameter (v from -9 to 9'");
        range(Desk.of("r+1"), 0, -9, 9);
    }

    private static void parameterP() {
        CHECK.about("promise 8, 'not below 0 for p'");
        range(Desk.of("p+1"), 0, 0, 9);
    }

    private static void parameterQ() {
        CHECK.about("promise 8, 'not above 0 for q'");
        range(Desk.of("q+1"), 0, -9, 0);
    }

    private static void variablesWhileAFormStands() {
        CHECK.about("promise 8, variables and parameters while a form stands");
        Desk desk = Desk.busy();
        range(desk.again(), 0, -20, 20);
        range(desk.again(), 5, 0, 9);
        range(desk.again(), 7, -9, 0);
        desk.wipe();
        int unused = desk.read("w");
        range(desk, unused, -20, 20);
        CHECK.due("cost(): the own values stay", desk.cost(), 17);
    }

    /** Where there is one auxiliary k and the cost is its own value. */
    private static void ownRange(Desk desk, int k) {
        for (int v : new int[] {0, 1, -1, 20, 21, -21, OWN_LIMIT - 1, OWN_LIMIT, 1 - OWN_LIMIT, -OWN_LIMIT}) {
            CHECK.due("set(" + k + ", " + v + ")", desk.set(k, v), true);
            CHECK.due("cost()", Math.abs(desk.cost()), Math.abs(v));
        }
        for (int v : FAR) {
            if (v < -OWN_LIMIT || v > OWN_LIMIT) {
                CHECK.refused("set(" + k + ", " + v + ")", desk, d -> d.set(k, v));
            }
        }
        CHECK.due("cost()", Math.abs(desk.cost()), OWN_LIMIT);
    }

    private static void ownValues() {
        CHECK.about("promise 8, 'the own value of one of its auxiliaries (in use; v from -1000000 to 1000000)'");
        Desk desk = Desk.busy();
        CHECK.due("set(1, 1000000)", desk.set(1, OWN_LIMIT), true);
        CHECK.due("cost()", desk.cost(), OWN_LIMIT + 5);
        CHECK.refused("set(1, 1000001)", desk, d -> d.set(1, OWN_LIMIT + 1));
        CHECK.due("set(1, -1000000)", desk.set(1, -OWN_LIMIT), true);
        CHECK.due("cost()", desk.cost(), 5 - OWN_LIMIT);
        CHECK.refused("set(1, -1000001)", desk, d -> d.set(1, -OWN_LIMIT - 1));
        CHECK.due("set(3, 8)", desk.set(3, 8), true);
        CHECK.due("cost(): of one alone", desk.cost(), 8 - OWN_LIMIT);
    }

    private static void ownValuesOfEachKind() {
        CHECK.about("promise 8, own values of MAX, MIN, ABS, SQUARE and PAIRS");
        for (String text : new String[] {"M(x,y)", "L(x,y)", "A(x)", "S(x)", "P(x,y,z)"}) {
            Desk desk = Desk.of(text);
            int node = desk.nodes() - 1;
            desk.objective(node, text.charAt(0) != 'L');
            desk.compile();
            ownRange(desk, node);
        }
    }

    private static void ownValuesWithoutAForm() {
        CHECK.about("promise 8, 'while a form stands'");
        Desk desk = Desk.of("A(x)", "S(x)");
        CHECK.refused("set(1, 0) before compile", desk, d -> d.set(1, 0));
        CHECK.refused("set(1, 5) before compile", desk, d -> d.set(1, 5));
        desk.objective(1, false);
        CHECK.due("compile() is refused", desk.compile(), -3);
        CHECK.refused("set(1, 5) after a refused compile", desk, d -> d.set(1, 5));
        desk.objective(1, true);
        desk.compile();
        CHECK.due("set(1, 5) after compile", desk.set(1, 5), true);
        CHECK.due("cost()", desk.cost(), 5);
    }

    private static void ownValuesWhenTheFormIsDropped() {
        CHECK.about("promise 8, 'while a form stands', after each call that drops it");
        Desk desk = Desk.busy();
        desk.objective(4, true);
        CHECK.refused("set(1, 3) after objective", desk, d -> d.set(1, 3));
        desk = Desk.busy();
        desk.require(false, 0, 0);
        CHECK.refused("set(1, 3) after require", desk, d -> d.set(1, 3));
        desk = Desk.busy();
        desk.withdraw(2);
        CHECK.refused("set(1, 3) after withdraw", desk, d -> d.set(1, 3));
        CHECK.due("compile()", desk.compile(), 4);
        CHECK.due("set(1, 3) after compile", desk.set(1, 3), true);
    }

    private static void auxiliariesNotInUse() {
        CHECK.about("promise 8, '(in use;'");
        Desk desk = Desk.of("A(x)", "S(x)", "M(x,2)", "L(x,2)", "P(x,x,x)");
        desk.objective(1, true);
        CHECK.due("compile()", desk.compile(), 2);
        for (int k : new int[] {2, 4, 5, 6}) {
            CHECK.refused("set(" + k + ", 0)", desk, d -> d.set(k, 0));
        }
        desk.objective(2, true);
        desk.compile();
        CHECK.refused("set(1, 1): in use no more", desk, d -> d.set(1, 1));
        CHECK.due("set(2, 1)", desk.set(2, 1), true);
    }

    private static void constantNodesInUse() {
        CHECK.about("promise 8, a CONSTANT node is no auxiliary");
        Desk desk = Desk.of("A(r)", "M(r,2)", "P(#1,#3,x)", "L(r,2)*#5");
        int pairs = 5;
        CHECK.due("nodes()", desk.nodes(), 8);
        desk.objective(7, true);
        CHECK.due("compile(): L(r,2) may be below and above", desk.compile(), -2 - 7);
        desk.objective(pairs, true);
        CHECK.due("compile()", desk.compile(), 2);
        CHECK.refused("set of A(r)", desk, d -> d.set(1, 1));
        CHECK.refused("set of M(r,2)", desk, d -> d.set(3, 1));
        CHECK.due("set of P(..)", desk.set(pairs, 1), true);
    }

    private static void nodesMadeLater() {
        CHECK.about("promise 8, a node made after compile is none of the form's auxiliaries");
        Desk desk = Desk.busy();
        desk.wipe();
        int later = desk.read("M(x,y)");
        CHECK.due("nodes()", desk.nodes(), 12);
        CHECK.refused("set of it", desk, d -> d.set(later, 1));
        desk.objective(later, true);
        desk.compile();
        CHECK.due("set of it when it is in use", desk.set(later, 1), true);
    }

    private static void otherKinds() {
        CHECK.about("promise 8, 'False for any other k'");
        Desk desk = Desk.of("x+5", "x-5", "-x", "x*5", "#2+#3+#4+#5");
        desk.objective(8, true);
        desk.compile();
        for (int k = 1; k <= 8; k++) {
            int node = k;
            CHECK.refused("set(" + k + ", 0)", desk, d -> d.set(node, 0));
            CHECK.refused("set(" + k + ", 5)", desk, d -> d.set(node, 5));
        }
    }

    private static void noSuchNode() {
        CHECK.about("promise 8, 'False for any other k'");
        for (int k : new int[] {Integer.MIN_VALUE, -36, -1, 11, 35, 36, 37, 1 << 30, Integer.MAX_VALUE}) {
            for (int v : new int[] {Integer.MIN_VALUE, 0, 1, Integer.MAX_VALUE}) {
                CHECK.refused("set(" + k + ", " + v + ")", Desk.busy(), d -> d.set(k, v));
            }
        }
    }
}
