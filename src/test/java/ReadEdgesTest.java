/** The edges that 'Terms' names for nodes and their reach, and promises 4 and 5 for reading expressions. */
public final class ReadEdgesTest {
    private static final Check CHECK = new Check();
    private static final int NODES = 36;
    private static final int FIRST_NUMBER = 100;

    public static void main(String[] args) {
        numberedInOrder();
        atMost36();
        aLineThatFills();
        argumentsFromLeftToRight();
        indexAndBrackets();
        equalNodesOfEachKind();
        equalNodesWithinALine();
        nodesThatAreNotEqual();
        equalNodesOnAFullDesk();
        lineBecomesEmpty();
        reachOfALeaf();
        reachOfEachKind();
        reachAtItsLimit();
        reachBeyondItsLimit();
        reachThatWrapsAround();
        noValueBeyondItsReach();
        absent();
        absentAmongNodesBefore();
        large();
        full();
        largeAndBeyond36();
        neitherWhenThereAlready();
        firstOfTwoDecides();
        indexWhereANumberWouldStand();
        noneOfTheNodesIsMade();
        refusedLineStays();
        howManyNodes();
        CHECK.finish();
    }

    /** As many nodes, all of them numbers from 100 on. */
    private static Desk numbered(int nodes) {
        Desk desk = new Desk();
        for (int k = 0; k < nodes; k++) {
            desk.typeAll(Integer.toString(FIRST_NUMBER + k));
            desk.read();
        }
        return desk;
    }

    /** The line, read on this desk, is refused so and changes nothing. */
    private static void refuses(Desk desk, String text, int want) {
        desk.wipe();
        desk.typeAll(text);
        CHECK.refused("read() of " + text, desk, Desk::read, want);
    }

    private static void numberedInOrder() {
        CHECK.about("Terms, 'NODES are numbered 0, 1, .. in the order in which they are made'");
        Desk desk = new Desk();
        for (int k = 0; k < NODES; k++) {
            CHECK.due("read()", desk.read(Integer.toString(FIRST_NUMBER + k)), k);
            CHECK.due("value(" + k + ")", desk.value(k), FIRST_NUMBER + k);
            CHECK.due("nodes()", desk.nodes(), k + 1);
        }
    }

    private static void atMost36() {
        CHECK.about("Terms, 'there are at most 36'");
        Desk desk = numbered(NODES);
        CHECK.due("nodes()", desk.nodes(), NODES);
        refuses(desk, "x", ConeForms.FULL);
        refuses(desk, "999", ConeForms.FULL);
        refuses(desk, "-#0", ConeForms.FULL);
        refuses(desk, "P(#0,#1,#2)", ConeForms.FULL);
        CHECK.due("nodes()", desk.nodes(), NODES);
    }

    private static void aLineThatFills() {
        CHECK.about("Terms, 'there are at most 36', when a line makes several");
        String twenty = "-------------------x";
        Desk desk = numbered(16);
        CHECK.due("20 more than 16", desk.read(twenty), 35);
        CHECK.due("nodes()", desk.nodes(), NODES);
        desk = numbered(17);
        refuses(desk, twenty, ConeForms.FULL);
        CHECK.due("nodes()", desk.nodes(), 17);
        CHECK.due("19 more than 17", desk.read(twenty.substring(1)), 35);
        desk = numbered(34);
        refuses(desk, "x+y", ConeForms.FULL);
        CHECK.due("2 more than 34", desk.read("x+#0"), 35);
    }

    private static void argumentsFromLeftToRight() {
        CHECK.about("Terms, 'made after their arguments, the arguments from left to right'");
        Desk desk = new Desk();
        CHECK.due("read()", desk.read("P(7+x,p*8,M(9,5))"), 9);
        int[] reaches = {7, 20, 27, 9, 8, 72, 9, 5, 9, 108};
        for (int k = 0; k < reaches.length; k++) {
            CHECK.due("reach(" + k + ")", desk.reach(k), reaches[k]);
        }
        CHECK.due("value(0)", desk.value(0), 7);
        CHECK.due("value(6)", desk.value(6), 9);
        CHECK.due("value(7)", desk.value(7), 5);
        CHECK.due("nodes()", desk.nodes(), 10);
    }

    private static void indexAndBrackets() {
        CHECK.about("Terms, 'The node of # index is the node of that number; brackets make no node'");
        Desk desk = Desk.of("5", "x", "M(x,5)");
        CHECK.due("read() of #1", desk.read("#1"), 1);
        CHECK.due("read() of ((#2))", desk.read("((#2))"), 2);
        CHECK.due("read() of (M((x),(5)))", desk.read("(M((x),(5)))"), 2);
        CHECK.due("nodes()", desk.nodes(), 3);
        CHECK.due("read() of (((x)))-((5))", desk.read("(((x)))-((5))"), 3);
        CHECK.due("read() of -(#2)", desk.read("-(#2)"), 4);
        CHECK.due("nodes()", desk.nodes(), 5);
    }

    private static void equalNodesOfEachKind() {
        CHECK.about("Terms, 'where one is there already, it is taken and none is made'");
        String[] texts = {"x", "p", "7", "x+p", "x-p", "-x", "x*p", "M(x,p)", "L(x,p)", "A(x)", "S(x)", "P(x,p,7)"};
        Desk desk = new Desk();
        for (int k = 0; k < texts.length; k++) {
            CHECK.due("read() of " + texts[k], desk.read(texts[k]), k);
            CHECK.due("read() of " + texts[k] + " again", desk.read(texts[k]), k);
        }
        for (int k = 0; k < texts.length; k++) {
            CHECK.due("read() of " + texts[k] + " later", desk.read(texts[k]), k);
        }
        CHECK.due("read() of P(#0,#1,#02)", desk.read("P(#0,#1,#02)"), 11);
        CHECK.due("nodes()", desk.nodes(), texts.length);
    }

    private static void equalNodesWithinALine() {
        CHECK.about("Terms, 'There are never two equal nodes', within a line");
        Desk desk = new Desk();
        CHECK.due("read() of S(x-3)*S(x-3)+3", desk.read("S(x-3)*S(x-3)+3"), 5);
        CHECK.due("nodes(): x, 3, x-3, its square, product, sum", desk.nodes(), 6);
        CHECK.due("read() of M(y,y)+M(y,y)", desk.read("M(y,y)+M(y,y)"), 8);
        CHECK.due("nodes()", desk.nodes(), 9);
    }

    private static void nodesThatAreNotEqual() {
        CHECK.about("Terms, 'equal: the same number, the same letter, or the same kind with the same arguments'");
        String[] texts = {"x", "120", "y", "121", "p", "112", "q", "0", "1", "x+y", "y+x", "x-y", "y-x", "x*y", "y*x",
            "M(x,y)", "M(y,x)", "L(x,y)", "L(y,x)", "P(x,y,p)", "P(x,p,y)", "P(y,x,p)", "P(y,p,x)", "P(p,x,y)",
            "P(p,y,x)", "-x", "A(x)", "S(x)", "-y", "A(y)", "S(y)", "x+x"};
        Desk desk = new Desk();
        for (int k = 0; k < texts.length; k++) {
            CHECK.due("read() of " + texts[k], desk.read(texts[k]), k);
        }
    }

    private static void equalNodesOnAFullDesk() {
        CHECK.about("Terms, 'it is taken and none is made', with 36 nodes");
        Desk desk = Desk.full();
        CHECK.due("nodes()", desk.nodes(), NODES);
        CHECK.due("read() of the 19 negations", desk.read("-------------------x"), 19);
        CHECK.due("read() of the sum", desk.read("1+2+3+4+5+6+7+8"), 34);
        CHECK.due("read() of A(x)", desk.read("A(x)"), 35);
        CHECK.due("read() of #35", desk.read("#35"), 35);
        CHECK.due("nodes()", desk.nodes(), NODES);
        refuses(desk, "A(-x)", ConeForms.FULL);
    }

    private static void lineBecomesEmpty() {
        CHECK.about("promise 4, 'the line becomes empty'");
        Desk desk = new Desk();
        desk.typeAll("x+1");
        CHECK.due("read()", desk.read(), 2);
        CHECK.refused("read() of the empty line", desk, Desk::read, -1);
        desk.typeAll("-------------------x");
        CHECK.due("read() of 20 characters", desk.read(), 21);
        CHECK.refused("read() of the empty line", desk, Desk::read, -1);
        desk.typeAll("#2");
        CHECK.due("read() of an index", desk.read(), 2);
        CHECK.refused("read() of the empty line", desk, Desk::read, -1);
    }

    private static void reaches(String text, int reach) {
        Desk desk = new Desk();
        int node = desk.read(text);
        CHECK.due("reach of " + text, desk.reach(node), reach);
    }

    private static void reachOfALeaf() {
        CHECK.about("Terms, reach 'of a number the greater of it and 1, of a variable 20, of a parameter 9'");
        reaches("0", 1);
        reaches("000", 1);
        reaches("1", 1);
        reaches("2", 2);
        reaches("999", 999);
        for (String letter : new String[] {"u", "v", "w", "x", "y", "z"}) {
            reaches(letter, 20);
        }
        for (String letter : new String[] {"p", "q", "r"}) {
            reaches(letter, 9);
        }
    }

    private static void reachOfEachKind() {
        CHECK.about("Terms, 'The REACH of a node'");
        reaches("7+9", 16);
        reaches("7-9", 16);
        reaches("P(7,9,4)", 20);
        reaches("-7", 7);
        reaches("A(7)", 7);
        reaches("7*9", 63);
        reaches("0*0", 1);
        reaches("0+0", 2);
        reaches("P(0,0,0)", 3);
        reaches("M(7,9)", 9);
        reaches("M(9,7)", 9);
        reaches("L(7,9)", 9);
        reaches("L(9,7)", 9);
        reaches("S(7)", 49);
        reaches("S(0)", 1);
    }

    /** Node 0 is 100, node 2 is 1000000, node 7 is 1000, node 9 is 999999; ten nodes. */
    private static Desk great() {
        return Desk.of("100*100*100", "0", "M(0,#2)", "1+999", "999*#7+999");
    }

    private static void reachAtItsLimit() {
        CHECK.about("Terms, 'A node whose reach would be above 1000000 is not made': 1000000 is");
        Desk desk = great();
        CHECK.due("reach(2)", desk.reach(2), 1000000);
        CHECK.due("reach(7)", desk.reach(7), 1000);
        CHECK.due("reach(9)", desk.reach(9), 999999);
        for (String text : new String[] {"#9+1", "#9+0", "#9-1", "0-#9", "S(#7)", "#7*#7", "M(#2,0)", "L(#2,0)",
            "-#2", "A(#2)", "#2*1", "0*#2"}) {
            Desk twin = desk.again();
            int node = twin.read(text);
            CHECK.holds("read() of " + text + " makes a node", node >= 0);
            CHECK.due("reach of " + text, twin.reach(node), 1000000);
        }
        desk.read("999*#7+998");
        desk.read("P(#11,1,0)");
        CHECK.due("reach of P(999998,1,0)", desk.reach(desk.nodes() - 1), 1000000);
    }

    private static void reachBeyondItsLimit() {
        CHECK.about("Terms, 'A node whose reach would be above 1000000 is not made'");
        for (String text : new String[] {"#2+1", "#2+0", "1+#2", "#2-1", "#2-0", "0-#2", "#9+2", "#9-2", "2-#9",
            "P(#9,1,0)", "P(0,#9,1)", "P(1,0,#9)", "P(#2,0,0)", "S(#7+1)", "#2*2", "2*#2", "#9*2", "#2+#2",
            "101*(99*#0+1)"}) {
            refuses(great(), text, ConeForms.LARGE);
        }
        CHECK.due("read() of 101*9900", great().read("101*(99*#0)"), 13);
    }

    private static void reachThatWrapsAround() {
        CHECK.about("promise 4, LARGE where the reach is beyond an int");
        refuses(great(), "S(#2)", ConeForms.LARGE);
        refuses(great(), "#2*#2", ConeForms.LARGE);
        refuses(great(), "#2*#9", ConeForms.LARGE);
        refuses(Desk.of("S(256)"), "#1*#1", ConeForms.LARGE);
        refuses(Desk.of("S(256)"), "S(#1)", ConeForms.LARGE);
        refuses(Desk.of("256*256*8"), "S(#3)", ConeForms.LARGE);
        refuses(Desk.of("S(256)*8", "S(256)+1"), "#3*#5", ConeForms.LARGE);
    }

    private static void noValueBeyondItsReach() {
        CHECK.about("Terms, 'So no value lies beyond its reach, above or below 0'");
        Desk desk = Desk.of("x", "y", "p", "q", "-x-y", "x*y*-p", "S(x-y)*q", "P(x,y,-q)", "S(S(x+10))");
        for (int v : new int[] {-20, 20}) {
            for (int other : new int[] {-20, 20}) {
                desk.set(0, v);
                desk.set(1, other);
                desk.set(2, 9);
                desk.set(3, -9);
                for (int k = 0; k < desk.nodes(); k++) {
                    CHECK.holds("value(" + k + ") within reach", Math.abs(desk.value(k)) <= desk.reach(k));
                }
                desk = desk.again();
            }
        }
        desk = Desk.of("-(100*100*100)");
        CHECK.due("value(3)", desk.value(3), -1000000);
        CHECK.due("reach(3)", desk.reach(3), 1000000);
    }

    private static void absent() {
        CHECK.about("promise 4, ABSENT");
        for (String text : new String[] {"#0", "#00", "#1", "#35", "#36", "#99", "x+#0", "-#0", "A(#0)", "P(1,2,#0)"}) {
            refuses(new Desk(), text, ConeForms.ABSENT);
        }
        refuses(Desk.busy(), "#11", ConeForms.ABSENT);
        CHECK.due("read() of #10", Desk.busy().read("#10"), 10);
        refuses(Desk.full(), "#36", ConeForms.ABSENT);
        CHECK.due("read() of #35", Desk.full().read("#35"), 35);
        CHECK.due("ABSENT", ConeForms.ABSENT, -100);
    }

    private static void absentAmongNodesBefore() {
        CHECK.about("promise 4, ABSENT, 'looked at among the nodes that were there before this call'");
        refuses(new Desk(), "x+#0", ConeForms.ABSENT);
        refuses(Desk.of("x"), "y+#1", ConeForms.ABSENT);
        refuses(Desk.of("x"), "M(x+y,#2)", ConeForms.ABSENT);
        Desk desk = Desk.of("x");
        CHECK.due("read() of y+#0", desk.read("y+#0"), 2);
        CHECK.due("read() of y+#1, which is there now", desk.read("y+#1"), 3);
    }

    private static void large() {
        CHECK.about("promise 4, LARGE");
        refuses(new Desk(), "999*999*2", ConeForms.LARGE);
        refuses(new Desk(), "S(999)+S(999)", ConeForms.LARGE);
        refuses(new Desk(), "S(S(x))*S(S(y))", ConeForms.LARGE);
        refuses(Desk.busy(), "999*999*2", ConeForms.LARGE);
        CHECK.due("LARGE", ConeForms.LARGE, -101);
    }

    private static void full() {
        CHECK.about("promise 4, FULL");
        refuses(numbered(35), "x+y", ConeForms.FULL);
        refuses(numbered(35), "x+#0", ConeForms.FULL);
        CHECK.due("read() of x", numbered(35).read("x"), 35);
        refuses(numbered(36), "x", ConeForms.FULL);
        refuses(Desk.full(), "0", ConeForms.FULL);
        CHECK.due("FULL", ConeForms.FULL, -102);
    }

    private static void largeAndBeyond36() {
        CHECK.about("promise 4, 'a node that is both LARGE and beyond 36 is LARGE'");
        Desk desk = numbered(33);
        CHECK.due("two more than 33", desk.read("#0*#0*#0"), 34);
        CHECK.due("one more", desk.read("x"), 35);
        refuses(desk, "#34+1", ConeForms.FULL);
        refuses(desk, "#34+#0", ConeForms.LARGE);
        refuses(desk, "S(#34)", ConeForms.LARGE);
        refuses(desk, "P(#0,#34,#1)", ConeForms.LARGE);
        refuses(desk, "#0-#34", ConeForms.LARGE);
        refuses(desk, "x*#34", ConeForms.LARGE);
        refuses(desk, "x-#0", ConeForms.FULL);
    }

    private static void neitherWhenThereAlready() {
        CHECK.about("promise 4, 'one that is there already is neither'");
        Desk desk = Desk.of("100*100*100");
        CHECK.due("read() of a node of reach 1000000 again", desk.read("100*100*100"), 2);
        desk = numbered(33);
        desk.read("#0*#0*#0");
        desk.read("x");
        CHECK.due("read() with 36 nodes", desk.read("100*100*100"), 34);
        CHECK.due("read() of x with 36 nodes", desk.read("x"), 35);
        CHECK.due("read() of 132*1, which would be new", desk.read("132*1"), ConeForms.FULL);
        CHECK.due("read() of 132", desk.read("132"), 32);
        desk = numbered(35);
        CHECK.due("one new node, taken again in the same line", desk.read("(x)"), 35);
        desk = numbered(34);
        CHECK.due("two new nodes, the first taken twice", desk.read("x+x"), 35);
        desk = numbered(33);
        CHECK.due("three new nodes, the second taken twice", desk.read("A(x)*A(x)"), 35);
    }

    private static void firstOfTwoDecides() {
        CHECK.about("promise 4, 'the first that can't be decides'");
        refuses(Desk.of("x"), "#9+999*999*9", ConeForms.ABSENT);
        refuses(Desk.of("x"), "999*999*9+#9", ConeForms.LARGE);
        refuses(Desk.of("x"), "M(#9,S(S(S(x))))", ConeForms.ABSENT);
        refuses(Desk.of("x"), "M(S(S(S(x))),#9)", ConeForms.LARGE);
        refuses(numbered(35), "x+y+#40", ConeForms.FULL);
        refuses(numbered(35), "x+#40+y", ConeForms.ABSENT);
        refuses(numbered(35), "#40+x+y", ConeForms.ABSENT);
        refuses(numbered(36), "#36+x", ConeForms.ABSENT);
        refuses(numbered(36), "x+#36", ConeForms.FULL);
        refuses(numbered(35), "x*(#0*#0*#0*#0)", ConeForms.FULL);
        refuses(numbered(33), "#0*#0*#0*#0*x", ConeForms.LARGE);
        refuses(numbered(34), "x+y+#0*#0*#0*#0", ConeForms.FULL);
        refuses(numbered(34), "#0*#0*#0*#0+x+y", ConeForms.LARGE);
        refuses(numbered(36), "S(#0)*#1", ConeForms.FULL);
    }

    private static void indexWhereANumberWouldStand() {
        CHECK.about("promise 4, 'in the order of making (an index where a number would stand)'");
        refuses(Desk.of("100*100*100"), "P(#2+1,#9,1)", ConeForms.LARGE);
        refuses(Desk.of("100*100*100"), "P(#9,#2+1,1)", ConeForms.ABSENT);
        refuses(Desk.of("100*100*100"), "#2+#9", ConeForms.ABSENT);
        refuses(Desk.of("100*100*100"), "#2+(1+#9)", ConeForms.ABSENT);
        refuses(Desk.of("100*100*100"), "#2+1+#9", ConeForms.LARGE);
        refuses(numbered(36), "x+#50", ConeForms.FULL);
        refuses(numbered(36), "#50-x", ConeForms.ABSENT);
        refuses(numbered(36), "#0+#50", ConeForms.ABSENT);
        refuses(numbered(36), "(#0+#1)*#50", ConeForms.FULL);
    }

    private static void noneOfTheNodesIsMade() {
        CHECK.about("promise 4, 'None of the nodes is made then'");
        Desk desk = Desk.of("x");
        refuses(desk, "y+z+#9", ConeForms.ABSENT);
        refuses(desk, "y+999*999*9", ConeForms.LARGE);
        CHECK.due("nodes()", desk.nodes(), 1);
        CHECK.due("read() of 7: it takes the next number", desk.read("7"), 1);
        CHECK.due("read() of y", desk.read("y"), 2);
        CHECK.due("value(2)", desk.value(2), 0);
        desk = numbered(35);
        refuses(desk, "x*5", ConeForms.FULL);
        CHECK.due("nodes()", desk.nodes(), 35);
        refuses(desk, "#35", ConeForms.ABSENT);
        CHECK.due("read() of 5", desk.read("5"), 35);
        CHECK.due("attributes(35): the number", desk.attributes(35), 1);
    }

    private static void refusedLineStays() {
        CHECK.about("promise 4, a refused line stays");
        Desk desk = Desk.of("100*100*100");
        for (int k = 3; k <= 20; k++) {
            desk.typeAll(Integer.toString(FIRST_NUMBER + k));
            desk.read();
        }
        refuses(desk, "x+#2", ConeForms.LARGE);
        CHECK.due("type('1') goes on", desk.type('1'), true);
        CHECK.refused("read() of x+#21", desk, Desk::read, ConeForms.ABSENT);
        CHECK.due("type('+') goes on", desk.type('+'), true);
        CHECK.refused("read() of x+#21+", desk, Desk::read, -7);
        refuses(desk, "x+#2", ConeForms.LARGE);
        CHECK.due("type('0') goes on", desk.type('0'), true);
        CHECK.due("read() of x+#20", desk.read(), 22);
        CHECK.due("value of the sum", desk.value(22), 120);
        desk = Desk.full();
        refuses(desk, "y", ConeForms.FULL);
        CHECK.due("type('*') goes on", desk.type('*'), true);
        CHECK.refused("read() of y*", desk, Desk::read, -3);
    }

    private static void howManyNodes() {
        CHECK.about("promise 5, 'How many nodes there are'");
        Desk desk = new Desk();
        CHECK.due("nodes() at first", desk.nodes(), 0);
        desk.typeAll("x+1");
        CHECK.due("nodes() before read", desk.nodes(), 0);
        desk.read();
        CHECK.due("nodes() after read", desk.nodes(), 3);
        desk.wipe();
        CHECK.due("nodes() after wipe", desk.nodes(), 3);
        CHECK.due("nodes() of a full desk", Desk.full().nodes(), NODES);
        CHECK.due("nodes() of a new desk", new Desk().nodes(), 0);
    }
}
