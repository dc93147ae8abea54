/** Promises 6, 7 and 10: attributes, reach and culprit. */
public final class RulesTest {
    private static final Check CHECK = new Check();
    private static final int CONSTANT = 0;
    private static final int AFFINE = 4;
    private static final int CONVEX = 8;
    private static final int CONCAVE = 12;
    private static final int UNKNOWN = 16;
    private static final int ABOVE = 1;
    private static final int BELOW = 2;
    private static final int BOTH = 3;
    private static final int BLAME = 32;

    public static void main(String[] args) {
        leaves();
        signs();
        curvatures();
        slopes();
        blames();
        reaches();
        culprits();
        noSuchNode();
        CHECK.finish();
    }

    private static void is(String text, int attributes) {
        Desk desk = new Desk();
        int node = desk.read(text);
        CHECK.due("attributes of " + text, desk.attributes(node), attributes);
    }

    private static void leaves() {
        CHECK.about("promise 6, leaves");
        is("0", CONSTANT);
        is("000", CONSTANT);
        is("1", CONSTANT + ABOVE);
        is("p", CONSTANT + ABOVE);
        is("q", CONSTANT + BELOW);
        is("r", CONSTANT + BOTH);
        for (char c = 'u'; c <= 'z'; c++) {
            is(String.valueOf(c), AFFINE + BOTH);
        }
    }

    private static void signs() {
        CHECK.about("promise 6, signs");
        is("p+1", ABOVE);
        is("p+q", BOTH);
        is("q+0", BELOW);
        is("0+0", 0);
        is("p-q", ABOVE);
        is("q-p", BELOW);
        is("p-p", BOTH);
        is("0-p", BELOW);
        is("-p", BELOW);
        is("-q", ABOVE);
        is("-0", 0);
        is("-r", BOTH);
        is("p*p", ABOVE);
        is("q*q", ABOVE);
        is("p*q", BELOW);
        is("q*p", BELOW);
        is("p*r", BOTH);
        is("r*q", BOTH);
        is("r*0", 0);
        is("M(p,q)", ABOVE);
        is("M(q,q)", BELOW);
        is("M(q,0)", 0);
        is("M(r,q)", BOTH);
        is("M(r,0)", ABOVE);
        is("L(p,q)", BELOW);
        is("L(p,1)", ABOVE);
        is("L(p,0)", 0);
        is("L(r,p)", BOTH);
        is("L(r,0)", BELOW);
        is("A(q)", ABOVE);
        is("A(p)", ABOVE);
        is("A(0)", 0);
        is("S(q)", ABOVE);
        is("S(r)", ABOVE);
        is("S(0)", 0);
        is("P(0,0,0)", 0);
        is("P(p,0,0)", ABOVE);
        is("P(0,p,0)", ABOVE);
        is("P(0,0,p)", ABOVE);
        is("P(q,0,0)", 0);
        is("P(0,q,0)", 0);
        is("P(0,0,q)", 0);
        is("P(q,q,0)", BELOW);
        is("P(q,0,q)", BELOW);
        is("P(0,q,q)", BELOW);
        is("P(q,q,q)", BELOW);
        is("P(r,q,0)", BOTH);
    }

    private static void curvatures() {
        CHECK.about("promise 6, curvatures");
        is("x+y", AFFINE + BOTH);
        is("x+p", AFFINE + BOTH);
        is("-x", AFFINE + BOTH);
        is("r*x", AFFINE + BOTH);
        is("x*r", AFFINE + BOTH);
        is("0*x", AFFINE);
        is("M(x,y)", CONVEX + BOTH);
        is("M(x,1)", CONVEX + ABOVE);
        is("L(x,y)", CONCAVE + BOTH);
        is("L(x,q)", CONCAVE + BELOW);
        is("A(x)", CONVEX + ABOVE);
        is("S(x)", CONVEX + ABOVE);
        is("P(x,1,p)", CONVEX + ABOVE);
        is("A(x)+y", CONVEX + BOTH);
        is("y+A(x)", CONVEX + BOTH);
        is("y-A(x)", CONCAVE + BOTH);
        is("A(x)-L(x,y)", CONVEX + BOTH);
        is("L(x,y)-A(x)", CONCAVE + BOTH);
        is("-A(x)", CONCAVE + BELOW);
        is("--A(x)", CONVEX + ABOVE);
        is("L(x,y)+L(y,x)", CONCAVE + BOTH);
        is("M(A(x),y)", CONVEX + ABOVE);
        is("L(-A(x),y)", CONCAVE + BELOW);
        is("P(A(x),S(y),M(x,y))", CONVEX + ABOVE);
        is("A(p)", CONSTANT + ABOVE);
        is("M(p,3)", CONSTANT + ABOVE);
        is("L(p,r)*x", AFFINE + BOTH);
    }

    private static void slopes() {
        CHECK.about("promise 6, slopes");
        is("S(A(x))", CONVEX + ABOVE);
        is("A(S(x))", CONVEX + ABOVE);
        is("S(-A(x))", CONVEX + ABOVE);
        is("A(-S(x))", CONVEX + ABOVE);
        is("S(M(x,0))", CONVEX + ABOVE);
        is("S(L(x,0))", CONVEX + ABOVE);
        is("S(M(x,y))", UNKNOWN + ABOVE + BLAME);
        is("A(L(x,y))", UNKNOWN + ABOVE + BLAME);
        is("S(L(0*x,1))", UNKNOWN + BLAME);
        is("S(L(A(x),1))", UNKNOWN + ABOVE);
        is("p*A(x)", CONVEX + ABOVE);
        is("A(x)*p", CONVEX + ABOVE);
        is("q*A(x)", CONCAVE + BELOW);
        is("A(x)*q", CONCAVE + BELOW);
        is("q*L(x,y)", CONVEX + BOTH);
        is("p*L(x,y)", CONCAVE + BOTH);
        is("0*A(x)", CONVEX);
        is("0*L(x,y)", CONCAVE);
    }

    private static void blames() {
        CHECK.about("promise 6, blame");
        is("x*y", UNKNOWN + BOTH + 4 * BLAME);
        is("x*x", UNKNOWN + BOTH + 4 * BLAME);
        is("A(x)*A(y)", UNKNOWN + ABOVE + 4 * BLAME);
        is("A(x)-A(y)", UNKNOWN + BOTH + 2 * BLAME);
        is("A(x)+L(x,y)", UNKNOWN + BOTH + 2 * BLAME);
        is("r*A(x)", UNKNOWN + BOTH + 2 * BLAME);
        is("A(x)*r", UNKNOWN + BOTH + BLAME);
        is("M(L(x,y),L(y,x))", UNKNOWN + BOTH + BLAME);
        is("M(x,L(x,y))", UNKNOWN + BOTH + 2 * BLAME);
        is("L(x,A(y))", UNKNOWN + BOTH + 2 * BLAME);
        is("L(A(x),y)", UNKNOWN + BOTH + BLAME);
        is("P(x,y,L(x,y))", UNKNOWN + BOTH + 3 * BLAME);
        is("P(x,L(x,y),L(x,y))", UNKNOWN + BOTH + 2 * BLAME);
        is("P(L(x,y),y,x)", UNKNOWN + BOTH + BLAME);
        is("x*y+1", UNKNOWN + BOTH);
        is("-(x*y)", UNKNOWN + BOTH);
        is("x*y*z", UNKNOWN + BOTH);
        is("x*y*2", UNKNOWN + BOTH);
        is("L(x*y,A(x))", UNKNOWN + BOTH);
    }

    private static void reaches(String text, int reach) {
        Desk desk = new Desk();
        int node = desk.read(text);
        CHECK.due("reach of " + text, desk.reach(node), reach);
    }

    private static void reaches() {
        CHECK.about("promise 7");
        reaches("0", 1);
        reaches("1", 1);
        reaches("2", 2);
        reaches("999", 999);
        reaches("x", 20);
        reaches("q", 9);
        reaches("x+p", 29);
        reaches("x-x", 40);
        reaches("-x", 20);
        reaches("A(x+y)", 40);
        reaches("x*p", 180);
        reaches("M(x,p)", 20);
        reaches("M(p,x)", 20);
        reaches("L(x,30)", 30);
        reaches("L(30,x)", 30);
        reaches("S(x)", 400);
        reaches("S(x+y)", 1600);
        reaches("P(x,p,1)", 30);
        reaches("100*100*100", 1000000);
    }

    private static void culprits() {
        CHECK.about("promise 10");
        Desk desk = Desk.of("x*y", "z*u", "A(x)");
        CHECK.due("nodes()", desk.nodes(), 7);
        CHECK.due("culprit(6): ABS is CONVEX", desk.culprit(6), -1);
        CHECK.due("culprit(0): a variable", desk.culprit(0), -1);
        CHECK.due("culprit(2): itself", desk.culprit(2), 2);
        int sum = desk.read("#5+#2");
        CHECK.due("the first argument's", desk.culprit(sum), 5);
        int greater = desk.read("M(x,#2)");
        CHECK.due("the only one's", desk.culprit(greater), 2);
        int deep = desk.read("P(x,-#" + greater + ",#5)");
        CHECK.due("all below the first before the next", desk.culprit(deep), 2);
        int mixed = desk.read("L(#6,#5)");
        CHECK.due("no offender itself", desk.culprit(mixed), 5);
        CHECK.due("and without blame", desk.attributes(mixed) / BLAME, 0);
        doubledChain();
    }

    /** A walk that goes down both arguments of each of these nodes would never end. */
    private static void doubledChain() {
        Desk desk = Desk.of("A(x)");
        for (int k = 1; k < 33; k++) {
            desk.read("M(#" + k + ",#" + k + ")");
        }
        CHECK.due("nodes()", desk.nodes(), 34);
        int offender = desk.read("L(x,#33)");
        CHECK.due("culprit of the chain's end", desk.culprit(offender), offender);
        CHECK.due("attributes", desk.attributes(offender), UNKNOWN + BOTH + 2 * BLAME);
    }

    private static void noSuchNode() {
        Desk desk = Desk.of("x*y");
        for (int k : new int[] {-1, 3, 35, 36, 37, 1000, Integer.MIN_VALUE, Integer.MAX_VALUE}) {
            CHECK.about("promise 6");
            CHECK.due("attributes(" + k + ")", desk.attributes(k), -1);
            CHECK.about("promise 7");
            CHECK.due("reach(" + k + ")", desk.reach(k), 0);
            CHECK.about("promise 10");
            CHECK.due("culprit(" + k + ")", desk.culprit(k), -2);
        }
    }
}
