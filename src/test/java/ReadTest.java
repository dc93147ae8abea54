/** Promises 4 and 5: read and nodes. */
public final class ReadTest {
    private static final Check CHECK = new Check();

    public static void main(String[] args) {
        noExpression();
        orderOfMaking();
        binding();
        equalNodes();
        absent();
        large();
        full();
        refusedChangesNothing();
        CHECK.finish();
    }

    private static void begins(String text, int characters) {
        Desk desk = Desk.of("x");
        CHECK.due("read() of " + text, desk.read(text), -1 - characters);
        CHECK.due("nodes() after " + text, desk.nodes(), 1);
    }

    private static void noExpression() {
        CHECK.about("promise 4, no expression");
        begins("", 0);
        begins("-", 1);
        begins("x+", 2);
        begins("+x", 0);
        begins("x++", 2);
        begins("x**y", 2);
        begins("xy", 1);
        begins("x1", 1);
        begins("1x", 1);
        begins("1234", 3);
        begins("0000", 3);
        begins("12+3456", 6);
        begins("#", 1);
        begins("#x", 1);
        begins("#-1", 1);
        begins("#001", 3);
        begins("#1#", 2);
        begins("#0x", 2);
        begins("x#0", 1);
        begins("()", 1);
        begins("(x", 2);
        begins("(x,y)", 2);
        begins("(x))", 3);
        begins("x)", 1);
        begins("x,y", 1);
        begins("A", 1);
        begins("Ax", 1);
        begins("A()", 2);
        begins("A(x,y)", 3);
        begins("S(x,y)", 3);
        begins("M(x)", 3);
        begins("L(x)", 3);
        begins("M(x,y,z)", 5);
        begins("L(x,y,z)", 5);
        begins("M(x,)", 4);
        begins("P(x,y)", 5);
        begins("P(x,y,z,u)", 7);
        begins("P(x,y,z", 7);
        begins("M((x,y),z)", 4);
        begins("a", 0);
        begins("X", 0);
        begins("o", 0);
        begins("s", 0);
        begins("t", 0);
        begins("x*B(y)", 2);
        begins("x/2", 1);
        begins("x.5", 1);
        begins("x2~", 1);
        begins("((((((((((((((((((((", 20);
        begins("--------------------", 20);
        begins("A(A(A(A(A(A(A(A(A(A(", 20);
        begins("P(P(P(P(P(P(P(P(P(1)", 19);
        begins("1+2+3+4+5+6+7+8+9+0+", 20);
    }

    private static void orderOfMaking() {
        CHECK.about("promise 4, order");
        Desk desk = new Desk();
        CHECK.due("read() of P(z,3,y)-A(z*p)", desk.read("P(z,3,y)-A(z*p)"), 7);
        CHECK.due("nodes()", desk.nodes(), 8);
        CHECK.due("reach(0): z", desk.reach(0), 20);
        CHECK.due("reach(1): 3", desk.reach(1), 3);
        CHECK.due("reach(2): y", desk.reach(2), 20);
        CHECK.due("reach(3): PAIRS", desk.reach(3), 43);
        CHECK.due("reach(4): p", desk.reach(4), 9);
        CHECK.due("reach(5): z*p", desk.reach(5), 180);
        CHECK.due("reach(6): A(z*p)", desk.reach(6), 180);
        CHECK.due("reach(7): the difference", desk.reach(7), 223);
        CHECK.due("read(): the line is empty now", desk.read(), -1);
    }

    private static void computes(String text, int value) {
        Desk desk = new Desk();
        int node = desk.read(text);
        CHECK.due("value of " + text, desk.value(node), value);
    }

    private static void binding() {
        CHECK.about("promise 4, grammar");
        computes("9-4-3", 2);
        computes("9-(4-3)", 8);
        computes("2+3*4", 14);
        computes("(2+3)*4", 20);
        computes("2*3*4", 24);
        computes("2*-3", -6);
        computes("2--3", 5);
        computes("---3", -3);
        computes("-2*3+1", -5);
        computes("-(2+3)", -5);
        computes("007", 7);
        computes("000", 0);
        computes("999", 999);
        computes("M(2,3)-L(2,3)", 1);
        computes("A(2-9)+S(0-4)", 23);
        computes("P(1,2,3)", 5);
        computes("P(3,2,1)", 5);
        computes("P(3,1,2)", 5);
        computes("((((((((((5))))))))))".substring(1, 20), 5);
        Desk desk = new Desk();
        desk.read("-x*y");
        CHECK.due("nodes() of -x*y: x, -x, y, product", desk.nodes(), 4);
        CHECK.due("attributes(1): -x comes first", desk.attributes(1), 7);
        CHECK.due("reach(1)", desk.reach(1), 20);
        CHECK.due("reach(3)", desk.reach(3), 400);
    }

    private static void equalNodes() {
        CHECK.about("promise 4, equal nodes");
        Desk desk = Desk.of("x+7");
        CHECK.due("the same sum", desk.read("x+7"), 2);
        CHECK.due("zeros in front", desk.read("x+007"), 2);
        CHECK.due("brackets make no node", desk.read("((x)+(7))"), 2);
        CHECK.due("by index", desk.read("#0+#01"), 2);
        CHECK.due("an index alone", desk.read("#2"), 2);
        CHECK.due("an index with a zero in front", desk.read("#02"), 2);
        CHECK.due("nodes()", desk.nodes(), 3);
        CHECK.due("another order is another node", desk.read("7+x"), 3);
        CHECK.due("another kind is another node", desk.read("x-7"), 4);
        CHECK.due("another letter", desk.read("p"), 5);
        CHECK.due("another parameter", desk.read("q"), 6);
        CHECK.due("MAX", desk.read("M(x,7)"), 7);
        CHECK.due("MIN", desk.read("L(x,7)"), 8);
        CHECK.due("ABS", desk.read("A(x)"), 9);
        CHECK.due("SQUARE", desk.read("S(x)"), 10);
        CHECK.due("NEGATION", desk.read("-x"), 11);
        CHECK.due("PRODUCT", desk.read("x*7"), 12);
        CHECK.due("PAIRS", desk.read("P(x,7,7)"), 13);
        CHECK.due("PAIRS with another third", desk.read("P(x,7,x)"), 14);
        CHECK.due("equal nodes within a line", desk.read("A(y)+A(y)"), 17);
        CHECK.due("nodes()", desk.nodes(), 18);
    }

    private static void absent() {
        CHECK.about("promise 4, ABSENT");
        Desk desk = new Desk();
        CHECK.due("#0 without nodes", desk.read("#0"), ConeForms.ABSENT);
        CHECK.due("x+#0: x was not there before", desk.read("x+#0"), ConeForms.ABSENT);
        CHECK.due("nodes()", desk.nodes(), 0);
        desk.read("x+y");
        CHECK.due("#2", desk.read("#2"), 2);
        CHECK.due("#3", desk.read("#3"), ConeForms.ABSENT);
        CHECK.due("#99", desk.read("#99"), ConeForms.ABSENT);
        CHECK.due("z+#3", desk.read("z+#3"), ConeForms.ABSENT);
        CHECK.due("ABSENT before LARGE", desk.read("#3+999*999*9"), ConeForms.ABSENT);
        CHECK.due("LARGE before ABSENT", desk.read("999*999*9+#3"), ConeForms.LARGE);
        CHECK.due("no expression before ABSENT", desk.read("#3+"), -4);
        CHECK.due("nodes()", desk.nodes(), 3);
    }

    private static void large() {
        CHECK.about("promise 4, LARGE");
        Desk desk = new Desk();
        CHECK.due("a product of 1000000", desk.read("100*100*100"), 2);
        CHECK.due("a sum of 1000001", desk.read("#2+1"), ConeForms.LARGE);
        CHECK.due("a difference of 1000001", desk.read("#2-0"), ConeForms.LARGE);
        CHECK.due("PAIRS", desk.read("P(#2,0,0)"), ConeForms.LARGE);
        CHECK.due("MAX keeps the reach", desk.read("M(#2,#0)"), 3);
        CHECK.due("1000000 times 0 keeps it", desk.read("#2*0"), 5);
        CHECK.due("reach(4): 0 reaches 1", desk.reach(4), 1);
        CHECK.due("the square of 1000000 is beyond an int", desk.read("S(#2)"), ConeForms.LARGE);
        CHECK.due("the product too", desk.read("#2*#2"), ConeForms.LARGE);
        CHECK.due("65536 times 65536 is 0 as an int",
                desk.read("S(256)*S(256)"), ConeForms.LARGE);
        CHECK.due("nodes()", desk.nodes(), 6);
        CHECK.due("a square of 1000000", desk.read("S(999+1)"), 9);
        CHECK.due("a square of 1002001", desk.read("S(999+2)"), ConeForms.LARGE);
    }

    /** An object with as many nodes, all of them numbers from 100 on. */
    private static Desk numbered(int nodes) {
        Desk desk = new Desk();
        for (int i = 0; i < nodes; i++) {
            desk.read(Integer.toString(100 + i));
        }
        return desk;
    }

    private static void full() {
        CHECK.about("promise 4, FULL");
        Desk desk = numbered(35);
        CHECK.due("two more than 35", desk.read("x+#1"), ConeForms.FULL);
        CHECK.due("nodes(): none is made", desk.nodes(), 35);
        CHECK.due("x was not kept", desk.read("#35"), ConeForms.ABSENT);
        CHECK.due("FULL before ABSENT", desk.read("x+y+#40"), ConeForms.FULL);
        CHECK.due("ABSENT before FULL", desk.read("x+#40+y"), ConeForms.ABSENT);
        CHECK.due("both LARGE and beyond 36", desk.read("x*(#1*#1*#1)"), ConeForms.FULL);
        CHECK.due("the 36th", desk.read("#34*#34"), 35);
        CHECK.due("a 37th", desk.read("x"), ConeForms.FULL);
        CHECK.due("LARGE and beyond 36 is LARGE", desk.read("#35*#35"), ConeForms.LARGE);
        CHECK.due("one that is there", desk.read("134*#34"), 35);
        CHECK.due("nodes()", desk.nodes(), 36);
    }

    private static void refusedChangesNothing() {
        CHECK.about("a refused read changes nothing");
        Desk desk = Desk.of("x");
        desk.read("y+#5");
        CHECK.due("type('-'): the line goes on", desk.type('-'), true);
        CHECK.due("read() of y+#5-", desk.read(), -6);
        CHECK.due("read() once more", desk.read(), -6);
        desk.type('1');
        CHECK.due("read() of y+#5-1", desk.read(), ConeForms.ABSENT);
        CHECK.due("nodes()", desk.nodes(), 1);
        CHECK.due("a refused letter begins with 0", desk.read("y"), 1);
        desk.set(1, 5);
        CHECK.due("value(1)", desk.value(1), 5);
        CHECK.due("read() of z+#9", desk.read("z+#9"), ConeForms.ABSENT);
        CHECK.due("value(1)", desk.value(1), 5);
        CHECK.due("value(2)", desk.value(2), 0);
    }
}
