/** Promises 4 and 5: read and nodes. */
public final class ReadTest {
    private static final Check CHECK = new Check();

    public static void main(String[] args) {
        noExpression();
        orderOfMaking();
        binding();
        equalNodes();
        absent();
        large();
        full();
        refusedChangesNothing();
        CHECK.finish();
    }

    private static void begins(String text, int characters) {
        ConeForms desk = Check.deskOf("x");
        CHECK.due("read() of " + text, Check.read(desk, text), -1 - characters);
        CHECK.due("nodes() after " + text, desk.nodes(), 1);
    }

    private static void noExpression() {
        CHECK.about("promise 4, no expression");
        begins("", 0);
        begins("-", 1);
        begins("x+", 2);
        begins("+x", 0);
        begins("x++", 2);
        begins("x**y", 2);
        begins("xy", 1);
        begins("x1", 1);
        begins("1x", 1);
        begins("1234", 3);
        begins("0000", 3);
        begins("12+3456", 6);
        begins("#", 1);
        begins("#x", 1);
        begins("#-1", 1);
        begins("#001", 3);
        begins("#1#", 2);
        begins("#0x", 2);
        begins("x#0", 1);
        begins("()", 1);
        begins("(x", 2);
        begins("(x,y)", 2);
        begins("(x))", 3);
        begins("x)", 1);
        begins("x,y", 1);
        begins("A", 1);
        begins("Ax", 1);
        begins("A()", 2);
        begins("A(x,y)", 3);
        begins("S(x,y)", 3);
        begins("M(x)", 3);
        begins("L(x)", 3);
        begins("M(x,y,z)", 5);
        begins("L(x,y,z)", 5);
        begins("M(x,)", 4);
        begins("P(x,y)", 5);
        begins("P(x,y,z,u)", 7);
        begins("P(x,y,z", 7);
        begins("M((x,y),z)", 4);
        begins("a", 0);
        begins("X", 0);
        begins("o", 0);
        begins("s", 0);
        begins("t", 0);
        begins("x*B(y)", 2);
        begins("x/2", 1);
        begins("x.5", 1);
        begins("x2~", 1);
        begins("((((((((((((((((((((", 20);
        begins("--------------------", 20);
        begins("A(A(A(A(A(A(A(A(A(A(", 20);
        begins("P(P(P(P(P(P(P(P(P(1)", 19);
        begins("1+2+3+4+5+6+7+8+9+0+", 20);
    }

    private static void orderOfMaking() {
        CHECK.about("promise 4, order");
        ConeForms desk = new ConeForms();
        CHECK.due("read() of P(z,3,y)-A(z*p)", Check.read(desk, "P(z,3,y)-A(z*p)"), 7);
        CHECK.due("nodes()", desk.nodes(), 8);
        CHECK.due("reach(0): z", desk.reach(0), 20);
        CHECK.due("reach(1): 3", desk.reach(1), 3);
        CHECK.due("reach(2): y", desk.reach(2), 20);
        CHECK.due("reach(3): PAIRS", desk.reach(3), 43);
        CHECK.due("reach(4): p", desk.reach(4), 9);
        CHECK.due("reach(5): z*p", desk.reach(5), 180);
        CHECK.due("reach(6): A(z*p)", desk.reach(6), 180);
        CHECK.due("reach(7): the difference", desk.reach(7), 223);
        CHECK.due("read(): the line is empty now", desk.read(), -1);
    }

    private static void computes(String text, int value) {
        ConeForms desk = new ConeForms();
        int node = Check.read(desk, text);
        CHECK.due("value of " + text, desk.value(node), value);
    }

    private static void binding() {
        CHECK.about("promise 4, grammar");
        computes("9-4-3", 2);
        computes("9-(4-3)", 8);
        computes("2+3*4", 14);
        computes("(2+3)*4", 20);
        computes("2*3*4", 24);
        computes("2*-3", -6);
        computes("2--3", 5);
        computes("---3", -3);
        computes("-2*3+1", -5);
        computes("-(2+3)", -5);
        computes("007", 7);
        computes("000", 0);
        computes("999", 999);
        computes("M(2,3)-L(2,3)", 1);
        computes("A(2-9)+S(0-4)", 23);
        computes("P(1,2,3)", 5);
        computes("P(3,2,1)", 5);
        computes("P(3,1,2)", 5);
        computes("((((((((((5))))))))))".substring(1, 20), 5);
        ConeForms desk = new ConeForms();
        Check.read(desk, "-x*y");
        CHECK.due("nodes() of -x*y: x, -x, y, product", desk.nodes(), 4);
        CHECK.due("attributes(1): -x comes first", desk.attributes(1), 7);
        CHECK.due("reach(1)", desk.reach(1), 20);
        CHECK.due("reach(3)", desk.reach(3), 400);
    }

    private static void equalNodes() {
        CHECK.about("promise 4, equal nodes");
        ConeForms desk = Check.deskOf("x+7");
        CHECK.due("the same sum", Check.read(desk, "x+7"), 2);
        CHECK.due("zeros in front", Check.read(desk, "x+007"), 2);
        CHECK.due("brackets make no node", Check.read(desk, "((x)+(7))"), 2);
        CHECK.due("by index", Check.read(desk, "#0+#01"), 2);
        CHECK.due("an index alone", Check.read(desk, "#2"), 2);
        CHECK.due("an index with a zero in front", Check.read(desk, "#02"), 2);
        CHECK.due("nodes()", desk.nodes(), 3);
        CHECK.due("another order is another node", Check.read(desk, "7+x"), 3);
        CHECK.due("another kind is another node", Check.read(desk, "x-7"), 4);
        CHECK.due("another letter", Check.read(desk, "p"), 5);
        CHECK.due("another parameter", Check.read(desk, "q"), 6);
        CHECK.due("MAX", Check.read(desk, "M(x,7)"), 7);
        CHECK.due("MIN", Check.read(desk, "L(x,7)"), 8);
        CHECK.due("ABS", Check.read(desk, "A(x)"), 9);
        CHECK.due("SQUARE", Check.read(desk, "S(x)"), 10);
        CHECK.due("NEGATION", Check.read(desk, "-x"), 11);
        CHECK.due("PRODUCT", Check.read(desk, "x*7"), 12);
        CHECK.due("PAIRS", Check.read(desk, "P(x,7,7)"), 13);
        CHECK.due("PAIRS with another third", Check.read(desk, "P(x,7,x)"), 14);
        CHECK.due("equal nodes within a line", Check.read(desk, "A(y)+A(y)"), 17);
        CHECK.due("nodes()", desk.nodes(), 18);
    }

    private static void absent() {
        CHECK.about("promise 4, ABSENT");
        ConeForms desk = new ConeForms();
        CHECK.due("#0 without nodes", Check.read(desk, "#0"), ConeForms.ABSENT);
        CHECK.due("x+#0: x was not there before", Check.read(desk, "x+#0"), ConeForms.ABSENT);
        CHECK.due("nodes()", desk.nodes(), 0);
        Check.read(desk, "x+y");
        CHECK.due("#2", Check.read(desk, "#2"), 2);
        CHECK.due("#3", Check.read(desk, "#3"), ConeForms.ABSENT);
        CHECK.due("#99", Check.read(desk, "#99"), ConeForms.ABSENT);
        CHECK.due("z+#3", Check.read(desk, "z+#3"), ConeForms.ABSENT);
        CHECK.due("ABSENT before LARGE", Check.read(desk, "#3+999*999*9"), ConeForms.ABSENT);
        CHECK.due("LARGE before ABSENT", Check.read(desk, "999*999*9+#3"), ConeForms.LARGE);
        CHECK.due("no expression before ABSENT", Check.read(desk, "#3+"), -4);
        CHECK.due("nodes()", desk.nodes(), 3);
    }

    private static void large() {
        CHECK.about("promise 4, LARGE");
        ConeForms desk = new ConeForms();
        CHECK.due("a product of 1000000", Check.read(desk, "100*100*100"), 2);
        CHECK.due("a sum of 1000001", Check.read(desk, "#2+1"), ConeForms.LARGE);
        CHECK.due("a difference of 1000001", Check.read(desk, "#2-0"), ConeForms.LARGE);
        CHECK.due("PAIRS", Check.read(desk, "P(#2,0,0)"), ConeForms.LARGE);
        CHECK.due("MAX keeps the reach", Check.read(desk, "M(#2,#0)"), 3);
        CHECK.due("1000000 times 0 keeps it", Check.read(desk, "#2*0"), 5);
        CHECK.due("reach(4): 0 reaches 1", desk.reach(4), 1);
        CHECK.due("the square of 1000000 is beyond an int", Check.read(desk, "S(#2)"), ConeForms.LARGE);
        CHECK.due("the product too", Check.read(desk, "#2*#2"), ConeForms.LARGE);
        CHECK.due("65536 times 65536 is 0 as an int",
                Check.read(desk, "S(256)*S(256)"), ConeForms.LARGE);
        CHECK.due("nodes()", desk.nodes(), 6);
        CHECK.due("a square of 1000000", Check.read(desk, "S(999+1)"), 9);
        CHECK.due("a square of 1002001", Check.read(desk, "S(999+2)"), ConeForms.LARGE);
    }

    /** An object with as many nodes, all of them numbers from 100 on. */
    private static ConeForms numbered(int nodes) {
        ConeForms desk = new ConeForms();
        for (int i = 0; i < nodes; i++) {
            Check.read(desk, Integer.toString(100 + i));
        }
        return desk;
    }

    private static void full() {
        CHECK.about("promise 4, FULL");
        ConeForms desk = numbered(35);
        CHECK.due("two more than 35", Check.read(desk, "x+#1"), ConeForms.FULL);
        CHECK.due("nodes(): none is made", desk.nodes(), 35);
        CHECK.due("x was not kept", Check.read(desk, "#35"), ConeForms.ABSENT);
        CHECK.due("FULL before ABSENT", Check.read(desk, "x+y+#40"), ConeForms.FULL);
        CHECK.due("ABSENT before FULL", Check.read(desk, "x+#40+y"), ConeForms.ABSENT);
        CHECK.due("both LARGE and beyond 36", Check.read(desk, "x*(#1*#1*#1)"), ConeForms.FULL);
        CHECK.due("the 36th", Check.read(desk, "#34*#34"), 35);
        CHECK.due("a 37th", Check.read(desk, "x"), ConeForms.FULL);
        CHECK.due("LARGE and beyond 36 is LARGE", Check.read(desk, "#35*#35"), ConeForms.LARGE);
        CHECK.due("one that is there", Check.read(desk, "134*#34"), 35);
        CHECK.due("nodes()", desk.nodes(), 36);
    }

    private static void refusedChangesNothing() {
        CHECK.about("a refused read changes nothing");
        ConeForms desk = Check.deskOf("x");
        Check.read(desk, "y+#5");
        CHECK.due("type('-'): the line goes on", desk.type('-'), true);
        CHECK.due("read() of y+#5-", desk.read(), -6);
        CHECK.due("read() once more", desk.read(), -6);
        desk.type('1');
        CHECK.due("read() of y+#5-1", desk.read(), ConeForms.ABSENT);
        CHECK.due("nodes()", desk.nodes(), 1);
        CHECK.due("a refused letter begins with 0", Check.read(desk, "y"), 1);
        desk.set(1, 5);
        CHECK.due("value(1)", desk.value(1), 5);
        CHECK.due("read() of z+#9", Check.read(desk, "z+#9"), ConeForms.ABSENT);
        CHECK.due("value(1)", desk.value(1), 5);
        CHECK.due("value(2)", desk.value(2), 0);
    }
}
