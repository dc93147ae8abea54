/** The edges that 'Terms' and promises 6, 7, 9 and 10 name: attributes, reach, value and culprit. */
public final class NodeEdgesTest {
    private static final Check CHECK = new Check();
    private static final int[] NO_NODE = {Integer.MIN_VALUE, Integer.MIN_VALUE + 1, -36, -2, -1, 11, 12, 35, 36, 37,
        108, 65536, 1 << 30, Integer.MAX_VALUE};
    private static final int AFFINE = 4;
    private static final int CONVEX = 8;
    private static final int CONCAVE = 12;
    private static final int UNKNOWN = 16;
    private static final int BOTH = 3;
    private static final int BLAME = 32;

    public static void main(String[] args) {
        noNodeK();
        lastNode();
        nodeOfARefusedLine();
        signsOfNumbers();
        bothOrNeither();
        signsOfPairs();
        allArgumentsConstant();
        neitherAboveNorBelow();
        risesFallsOrNeither();
        productsOfTwo();
        blameOfNoOffender();
        blameOfEachPlace();
        culpritOfNodesNotUnknown();
        culpritOfAnOffender();
        culpritOfTheWalk();
        culpritFarBelow();
        valuesAtFirst();
        valueIsNotTheOwnValue();
        questionsChangeNothing();
        CHECK.finish();
    }

    private static void noNodeK() {
        Desk desk = Desk.busy();
        CHECK.due("nodes()", desk.nodes(), 11);
        for (int k : NO_NODE) {
            CHECK.about("promise 6, '-1 when there is no node k'");
            CHECK.due("attributes(" + k + ")", desk.attributes(k), -1);
            CHECK.about("promise 7, '0 when there is none'");
            CHECK.due("reach(" + k + ")", desk.reach(k), 0);
            CHECK.about("promise 9, '0 when there is none'");
            CHECK.due("value(" + k + ")", desk.value(k), 0);
            CHECK.about("promise 10, '-2 when there is no node k'");
            CHECK.due("culprit(" + k + ")", desk.culprit(k), -2);
        }
    }

    private static void lastNode() {
        CHECK.about("promises 6, 7, 9 and 10, the first and the last of 36 nodes");
        Desk desk = Desk.full();
        desk.set(0, -6);
        CHECK.due("attributes(0)", desk.attributes(0), AFFINE + BOTH);
        CHECK.due("attributes(35)", desk.attributes(35), CONVEX + 1);
        CHECK.due("attributes(36)", desk.attributes(36), -1);
        CHECK.due("reach(0)", desk.reach(0), 20);
        CHECK.due("reach(35)", desk.reach(35), 20);
        CHECK.due("reach(36)", desk.reach(36), 0);
        CHECK.due("value(0)", desk.value(0), -6);
        CHECK.due("value(35)", desk.value(35), 6);
        CHECK.due("value(36)", desk.value(36), 0);
        CHECK.due("culprit(0)", desk.culprit(0), -1);
        CHECK.due("culprit(35)", desk.culprit(35), -1);
        CHECK.due("culprit(36)", desk.culprit(36), -2);
    }

    private static void nodeOfARefusedLine() {
        CHECK.about("promises 6, 7, 9 and 10, nodes of a refused line are none");
        Desk desk = Desk.of("x");
        desk.read("5*y*z+#9");
        for (int k = 1; k <= 5; k++) {
            CHECK.due("attributes(" + k + ")", desk.attributes(k), -1);
            CHECK.due("reach(" + k + ")", desk.reach(k), 0);
            CHECK.due("value(" + k + ")", desk.value(k), 0);
            CHECK.due("culprit(" + k + ")", desk.culprit(k), -2);
        }
    }

    private static void is(String text, int attributes) {
        Desk desk = new Desk();
        int node = desk.read(text);
        CHECK.due("attributes of " + text, desk.attributes(node), attributes);
    }

    private static void signsOfNumbers() {
        CHECK.about("Terms, 'A number may be above 0 unless it is 0, and not below'");
        is("0", 0);
        is("00", 0);
        is("000", 0);
        is("1", 1);
        is("001", 1);
        is("999", 1);
    }

    private static int[] possible(char leaf) {
        switch (leaf) {
            case '0': return new int[] {0};
            case 'p': return new int[] {0, 1};
            case 'q': return new int[] {-1, 0};
            default: return new int[] {-1, 0, 1};
        }
    }

    private static int calculated(char kind, int a, int b) {
        switch (kind) {
            case '+': return a + b;
            case '-': return a - b;
            case '*': return a * b;
            case 'M': return Math.max(a, b);
            case 'L': return Math.min(a, b);
            case 'A': return Math.abs(a);
            case 'S': return a * a;
            default: return -a;
        }
    }

    /** For these leaves the rules say just what values of -1, 0 and 1 can bring about. */
    private static void bothOrNeither() {
        CHECK.about("Terms, 'A node MAY BE ABOVE 0, MAY BE BELOW 0, both or neither'");
        for (char a : "0pqr".toCharArray()) {
            for (char b : "0pqr".toCharArray()) {
                for (char kind : "+-*ML".toCharArray()) {
                    String text = kind == 'M' || kind == 'L' ? kind + "(" + a + "," + b + ")" : "" + a + kind + b;
                    is(text, a == b && kind == '-' ? (a == '0' ? 0 : BOTH) : signs(kind, a, b));
                }
            }
            is("A(" + a + ")", signs('A', a, '0'));
            is("S(" + a + ")", signs('S', a, '0'));
            is("-" + a, signs('n', a, '0'));
        }
    }

    private static int signs(char kind, char a, char b) {
        int found = 0;
        for (int left : possible(a)) {
            for (int right : possible(b)) {
                int value = calculated(kind, left, right);
                found |= value > 0 ? 1 : value < 0 ? 2 : 0;
            }
        }
        return found;
    }

    private static void signsOfPairs() {
        CHECK.about("Terms, PAIRS 'above if one of the three may be above, below if two or three of them may be below'");
        for (char a : "0pqr".toCharArray()) {
            for (char b : "0pqr".toCharArray()) {
                for (char c : "0pqr".toCharArray()) {
                    int above = 0;
                    int below = 0;
                    for (char leaf : new char[] {a, b, c}) {
                        above += leaf == 'p' || leaf == 'r' ? 1 : 0;
                        below += leaf == 'q' || leaf == 'r' ? 1 : 0;
                    }
                    is("P(" + a + "," + b + "," + c + ")", (above >= 1 ? 1 : 0) + (below >= 2 ? 2 : 0));
                }
            }
        }
    }

    private static void allArgumentsConstant() {
        CHECK.about("Terms, 'If all arguments are CONSTANT the node is CONSTANT'");
        for (String text : new String[] {"r+2", "r-2", "-r", "r*r", "M(r,2)", "L(r,2)", "A(r)", "S(r)", "P(r,2,p)",
            "M(L(r,1),A(p))", "S(r)-S(p)", "A(r)*A(p)", "L(A(r),S(r))"}) {
            Desk desk = new Desk();
            int node = desk.read(text);
            CHECK.due("curvature of " + text, desk.attributes(node) / 4, 0);
            CHECK.due("culprit of " + text, desk.culprit(node), -1);
        }
        is("r+x", AFFINE + BOTH);
        is("M(r,x)", CONVEX + BOTH);
        is("P(1,2,x)", CONVEX + 1);
        is("L(r,x)", CONCAVE + BOTH);
    }

    private static void neitherAboveNorBelow() {
        CHECK.about("Terms, slopes where the sign is neither: 'rise if a may not be below 0'");
        is("0*A(x)", CONVEX);
        is("A(x)*0", CONVEX);
        is("0*L(x,y)", CONCAVE);
        is("L(x,y)*0", CONCAVE);
        is("S(0*A(x))", CONVEX);
        is("A(0*A(x))", CONVEX);
        is("S(0*L(x,y))", UNKNOWN + BLAME);
        is("A(0*L(x,y))", UNKNOWN + BLAME);
    }

    private static void risesFallsOrNeither() {
        CHECK.about("Terms, 'RISES in an argument, FALLS in it, or neither'");
        is("y-A(x)", CONCAVE + BOTH);
        is("A(x)-y", CONVEX + BOTH);
        is("y-L(x,y)", CONVEX + BOTH);
        is("-A(x)", CONCAVE + 2);
        is("-L(x,y)", CONVEX + BOTH);
        is("S(A(x))", CONVEX + 1);
        is("S(-A(x))", CONVEX + 1);
        is("A(-S(x))", CONVEX + 1);
        is("S(A(x)+y)", UNKNOWN + 1 + BLAME);
        is("S(L(-A(x),0))", CONVEX + 1);
        is("p*A(x)", CONVEX + 1);
        is("A(x)*q", CONCAVE + 2);
        is("q*L(x,y)", CONVEX + BOTH);
        is("r*A(x)", UNKNOWN + BOTH + 2 * BLAME);
        is("M(A(x),-L(x,y))", CONVEX + 1);
        is("L(-A(x),L(x,y))", CONCAVE + 2);
    }

    private static void productsOfTwo() {
        CHECK.about("Terms, 'a PRODUCT neither of whose arguments is CONSTANT is UNKNOWN'");
        is("x*y", UNKNOWN + BOTH + 4 * BLAME);
        is("x*x", UNKNOWN + BOTH + 4 * BLAME);
        is("(0*x)*y", UNKNOWN + 4 * BLAME);
        is("A(x)*y", UNKNOWN + BOTH + 4 * BLAME);
        is("A(x)*S(x)", UNKNOWN + 1 + 4 * BLAME);
        is("x*2", AFFINE + BOTH);
        is("r*x", AFFINE + BOTH);
        is("0*x", AFFINE);
    }

    private static void blameOfNoOffender() {
        CHECK.about("Terms, 'Nodes that are no offenders have blame 0'");
        for (String text : new String[] {"7", "x", "p", "x+y", "A(x)", "L(x,y)", "-(x*y)", "x*y+1", "1-x*y", "x*y*2",
            "2*(x*y)", "x*y*z", "A(x*y)", "S(x*y)", "M(x*y,1)", "M(1,x*y)", "L(x*y,A(x))", "P(1,x*y,2)"}) {
            Desk desk = new Desk();
            int node = desk.read(text);
            CHECK.due("blame of " + text, desk.attributes(node) / BLAME, 0);
        }
    }

    private static void blamed(String text, int blame) {
        Desk desk = new Desk();
        int node = desk.read(text);
        CHECK.due("curvature of " + text, desk.attributes(node) / 4 % 8, 4);
        CHECK.due("blame of " + text, desk.attributes(node) / BLAME, blame);
        CHECK.due("culprit of " + text, desk.culprit(node), node);
    }

    private static void blameOfEachPlace() {
        CHECK.about("Terms, 'the place (1, 2) of the last argument that is neither CONSTANT nor AFFINE'");
        blamed("A(x)-S(x)", 2);
        blamed("A(x)+L(x,y)", 2);
        blamed("r*A(x)", 2);
        blamed("A(x)*r", 1);
        blamed("L(x,y)*r", 1);
        CHECK.about("Terms, 'the place (1, 2, 3) of the first argument that does not admit convex'");
        blamed("M(L(x,y),x)", 1);
        blamed("M(L(x,y),L(x,y))", 1);
        blamed("M(A(x),L(x,y))", 2);
        blamed("A(L(x,y))", 1);
        blamed("S(M(x,y))", 1);
        blamed("P(L(x,y),x,L(x,y))", 1);
        blamed("P(x,L(x,y),L(x,y))", 2);
        blamed("P(x,A(x),L(x,y))", 3);
        CHECK.about("Terms, 'for MIN of the first one that does not admit concave'");
        blamed("L(A(x),x)", 1);
        blamed("L(A(x),A(y))", 1);
        blamed("L(L(x,y),A(x))", 2);
    }

    private static void culpritOfNodesNotUnknown() {
        CHECK.about("promise 10, '-1 when node k is not UNKNOWN'");
        Desk desk = Desk.of("7", "r", "x", "x+r", "A(x)", "L(x,7)", "x*r");
        for (int k = 0; k < 7; k++) {
            CHECK.due("culprit(" + k + ")", desk.culprit(k), -1);
        }
    }

    private static void culpritOfAnOffender() {
        CHECK.about("promise 10, an offender is its own culprit, node 35 too");
        Desk desk = Desk.of("-------------------x", "1+2+3+4+5+6+7+8", "x*x");
        CHECK.due("nodes()", desk.nodes(), 36);
        CHECK.due("culprit(35)", desk.culprit(35), 35);
        CHECK.due("culprit(34)", desk.culprit(34), -1);
        desk = Desk.of("x*x");
        CHECK.due("culprit(1)", desk.culprit(1), 1);
    }

    private static void culpritOfTheWalk() {
        CHECK.about("Terms, 'from the first to the last and all that is below each, before the node itself'");
        Desk desk = Desk.of("x*y", "z*u", "v*w");
        int first = 2;
        int second = 5;
        int third = 8;
        String[] texts = {"#8+#2", "#2+#8", "P(x,#8,#2)", "P(#5,#8,#2)", "P(x,y,#2)", "M(A(#5),#2)", "L(x,-#8)",
            "A(x)-(#5+#2)", "S(#8-#5)*1", "1*(#5*#2)"};
        int[] culprits = {third, first, third, second, first, second, third, second, third, second};
        for (int i = 0; i < texts.length; i++) {
            Desk twin = desk.again();
            int node = twin.read(texts[i]);
            CHECK.due("culprit of " + texts[i], twin.culprit(node), culprits[i]);
        }
    }

    private static void culpritFarBelow() {
        CHECK.about("promise 10, with as many nodes below as there can be");
        Desk desk = Desk.of("x*x");
        for (int k = 1; k < 35; k++) {
            desk.typeAll("M(#" + k + ",#" + k + ")");
            desk.read();
        }
        CHECK.due("nodes()", desk.nodes(), 36);
        CHECK.due("culprit(35)", desk.culprit(35), 1);
        CHECK.due("attributes(35): no offender", desk.attributes(35), UNKNOWN + BOTH);
    }

    private static void valuesAtFirst() {
        CHECK.about("Terms, 'both 0 at first'");
        for (char letter : "uvwxyzpqr".toCharArray()) {
            Desk desk = Desk.of("5", String.valueOf(letter));
            CHECK.due("value of " + letter, desk.value(1), 0);
        }
        Desk desk = Desk.of("x");
        desk.set(0, 20);
        desk.read("y+#9");
        CHECK.due("value of y, after a refused line", desk.value(desk.read("y")), 0);
    }

    private static void valueIsNotTheOwnValue() {
        CHECK.about("promise 9, 'not an auxiliary's own value, but what its kind says'");
        Desk desk = Desk.busy();
        CHECK.due("value(1) while its own value is 12", desk.value(1), 7);
        CHECK.due("value(3) while its own value is 5", desk.value(3), 16);
        CHECK.due("value(4), their sum", desk.value(4), 23);
        desk.set(1, -1000000);
        CHECK.due("value(1)", desk.value(1), 7);
        CHECK.due("value(4)", desk.value(4), 23);
        desk.set(0, 20);
        CHECK.due("value(1) after set(0, 20)", desk.value(1), 20);
    }

    private static void questionsChangeNothing() {
        CHECK.about("promises 5 to 7, 9, 10, 15 to 17 and 19 to 21, questions change nothing");
        for (Desk desk : new Desk[] {new Desk(), Desk.busy(), Desk.full()}) {
            CHECK.unchangedBy("questions", desk, d -> {
                d.nodes();
                d.fits();
                d.cost();
                d.feasible();
                for (int k : new int[] {Integer.MIN_VALUE, -1, 0, 1, 4, 9, 11, 35, 36, Integer.MAX_VALUE}) {
                    d.attributes(k);
                    d.reach(k);
                    d.value(k);
                    d.culprit(k);
                    d.column(k);
                    d.rows(k);
                    d.entry(k, -1);
                    d.entry(-1, k);
                }
            });
        }
    }
}
