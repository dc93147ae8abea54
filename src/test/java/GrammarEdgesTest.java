/** The edges of 'Terms' on how an expression is built, and of promise 4 on lines that are none. */
public final class GrammarEdgesTest {
    private static final Check CHECK = new Check();
    private static final int LINE = 20;
    private static final int FIRST_TYPED = 33;
    private static final int LAST_TYPED = 126;
    private static final String DIGITS = "0123456789";
    private static final String STARTS = DIGITS + "uvwxyzpqr" + "#(-ASMLP";
    private static final String GOES_ON = "+-*";

    public static void main(String[] args) {
        everyPlaceOfEveryLength();
        whatMayFollow();
        endsTooEarly();
        ofAnyLength();
        noExpressionIsRefused();
        digitsOfNumbers();
        digitsOfIndices();
        decimalNumbers();
        decimalIndices();
        letters();
        deepestLines();
        CHECK.finish();
    }

    private static Desk typed(String text) {
        Desk desk = new Desk();
        desk.typeAll(text);
        return desk;
    }

    private static void everyPlaceOfEveryLength() {
        CHECK.about("promise 4, '-1 - p, where p is the greatest number (0 .. the line's length)'");
        for (int length = 0; length <= LINE; length++) {
            for (int p = 0; p <= length; p++) {
                String text = "(".repeat(p) + "~".repeat(length - p);
                CHECK.refused("read() of " + text, typed(text), Desk::read, -1 - p);
            }
        }
    }

    /** Each character behind the beginning, and behind that one which never may follow. */
    private static void follows(String beginning, String may) {
        Desk desk = new Desk();
        for (char c = FIRST_TYPED; c <= LAST_TYPED; c++) {
            if (desk.callsLeft() < LINE + 2) {
                desk = new Desk();
            }
            int p = beginning.length() + (may.indexOf(c) >= 0 ? 1 : 0);
            CHECK.due("read() of " + beginning + c + "~", desk.read(beginning + c + "~"), -1 - p);
        }
    }

    private static void whatMayFollow() {
        CHECK.about("promise 4, 'some expression, of any length, begins with the first p characters of the line'");
        for (String before : new String[] {"", "-", "--", "(", "((", "-(", "x+", "x-", "x*", "x--", "1+", "#1*",
            "A(", "S(", "M(", "L(", "P(", "M(x,", "L(x,", "P(x,", "P(x,y,", "(x)*", "A(x)-"}) {
            follows(before, STARTS);
        }
        for (String name : new String[] {"A", "S", "M", "L", "P", "-A", "x+S", "(M", "P(1,L", "A(P"}) {
            follows(name, "(");
        }
        for (String whole : new String[] {"x", "p", "123", "#12", "-x", "(x)", "x+y", "x-y", "x*y", "A(x)", "S(x)",
            "M(x,y)", "L(x,y)", "P(x,y,z)", "((x))", "-(x)", "000", "#00"}) {
            follows(whole, GOES_ON);
        }
        for (String open : new String[] {"(x", "A(x", "S(x", "M(x,y", "L(x,y", "P(x,y,z", "((x)", "(A(x)", "A((x)",
            "A(P(x,y,z)", "M(x,(y)", "P(x,M(x,y),z", "(123", "A(#12", "(-x"}) {
            follows(open, GOES_ON + ")");
        }
        for (String first : new String[] {"M(x", "L(x", "P(x", "P(x,y", "M((x)", "L(A(x)", "P(x,M(x,y)", "M(123",
            "P(#12", "P(x,-y", "A(M(x", "(L(x"}) {
            follows(first, GOES_ON + ",");
        }
        follows("1", GOES_ON + DIGITS);
        follows("12", GOES_ON + DIGITS);
        follows("x+12", GOES_ON + DIGITS);
        follows("(1", GOES_ON + DIGITS + ")");
        follows("M(12", GOES_ON + DIGITS + ",");
        follows("#", DIGITS);
        follows("-#", DIGITS);
        follows("#1", GOES_ON + DIGITS);
        follows("A(#1", GOES_ON + DIGITS + ")");
        follows("P(#1", GOES_ON + DIGITS + ",");
    }

    private static void endsTooEarly() {
        CHECK.about("promise 4, p is the line's length where the line is a beginning alone");
        for (String text : new String[] {"", "-", "(", "#", "A", "S", "M", "L", "P", "x+", "x-", "x*", "(x", "A(",
            "A(x", "S(", "S(x", "M(", "M(x", "M(x,", "M(x,y", "L(", "L(x", "L(x,", "L(x,y", "P(", "P(x", "P(x,", "P(x,y",
            "P(x,y,", "P(x,y,z", "x+#", "x*-", "((x)", "1+2+3+4+5+6+7+8+9+0+", "M(1,2)+L(3,4)*P(5,6"}) {
            CHECK.refused("read() of " + text, typed(text), Desk::read, -1 - text.length());
        }
    }

    private static void ofAnyLength() {
        CHECK.about("promise 4, 'some expression, of any length'");
        for (String text : new String[] {"--------------------", "((((((((((((((((((((", "A(A(A(A(A(A(A(A(A(A(",
            "S(S(S(S(S(S(S(S(S(S(", "M(M(M(M(M(M(M(M(M(M(", "L(L(L(L(L(L(L(L(L(L(", "P(P(P(P(P(P(P(P(P(P(",
            "-(-(-(-(-(-(-(-(-(-(", "x*(x*(x*(x*(x*(x*(x*", "A(A(A(A(A(A(A(A(A(x)"}) {
            CHECK.refused("read() of " + text, typed(text), Desk::read, -1 - LINE);
        }
    }

    private static void noExpressionIsRefused() {
        CHECK.about("promise 4, 'when the line is no expression', nothing changes");
        CHECK.refused("read() of u+v*(", Desk.busy(), Desk::read, -6);
        Desk desk = Desk.busy();
        desk.typeAll("2)?");
        CHECK.refused("read() of u+v*(2)?", desk, Desk::read, -8);
        desk = Desk.full();
        desk.typeAll("x+y+");
        CHECK.refused("read() of x+y+ with 36 nodes", desk, Desk::read, -5);
    }

    private static void digitsOfNumbers() {
        CHECK.about("Terms, 'A number is one to three digits'");
        CHECK.due("read() of 5", new Desk().read("5"), 0);
        CHECK.due("read() of 55", new Desk().read("55"), 0);
        CHECK.due("read() of 555", new Desk().read("555"), 0);
        CHECK.refused("read() of 5555", typed("5555"), Desk::read, -4);
        CHECK.refused("read() of 0000", typed("0000"), Desk::read, -4);
        CHECK.refused("read() of 0005", typed("0005"), Desk::read, -4);
        CHECK.refused("read() of x+1000", typed("x+1000"), Desk::read, -6);
        CHECK.refused("read() of M(1000,x)", typed("M(1000,x)"), Desk::read, -6);
        CHECK.refused("read() of 20 digits", typed("12345678901234567890"), Desk::read, -4);
    }

    private static void digitsOfIndices() {
        CHECK.about("Terms, 'an index one or two digits'");
        Desk desk = Desk.of("x");
        CHECK.due("read() of #0", desk.read("#0"), 0);
        CHECK.due("read() of #00", desk.read("#00"), 0);
        for (String text : new String[] {"#", "#x", "#-1", "#(0)", "##0"}) {
            CHECK.refused("read() of " + text, typed(text), Desk::read, -2);
        }
        for (String text : new String[] {"#000", "#001", "#123", "#00#", "#00x"}) {
            CHECK.refused("read() of " + text, typed(text), Desk::read, -4);
        }
    }

    private static void decimalNumbers() {
        CHECK.about("Terms, 'read as decimal numbers, zeros in front are allowed'");
        for (int number = 0; number <= 999; number++) {
            String plain = Integer.toString(number);
            for (String text = plain; text.length() <= 3; text = "0" + text) {
                Desk desk = new Desk();
                CHECK.due("read() of " + text, desk.read(text), 0);
                CHECK.due("value of " + text, desk.value(0), number);
                CHECK.due("read() of " + plain + " once more", desk.read(plain), 0);
            }
        }
    }

    private static void decimalIndices() {
        CHECK.about("Terms, 'read as decimal numbers, zeros in front are allowed'");
        Desk desk = Desk.full();
        for (int k = 0; k <= 35; k++) {
            CHECK.due("read() of #" + k, desk.read("#" + k), k);
            if (k <= 9) {
                CHECK.due("read() of #0" + k, desk.read("#0" + k), k);
            }
        }
        for (int k = 36; k <= 99; k++) {
            CHECK.due("read() of #" + k, desk.again().read("#" + k), ConeForms.ABSENT);
        }
    }

    private static void letters() {
        CHECK.about("Terms, 'A letter is one of u v w x y z p q r'");
        for (char c = FIRST_TYPED; c <= LAST_TYPED; c++) {
            Desk desk = new Desk();
            int answer = desk.read(String.valueOf(c));
            if ("uvwxyz".indexOf(c) >= 0) {
                CHECK.due("read() of " + c, answer, 0);
                CHECK.due("attributes of the variable " + c, desk.attributes(0), 4 + 3);
                CHECK.due("reach of the variable " + c, desk.reach(0), 20);
            } else if ("pqr".indexOf(c) >= 0) {
                CHECK.due("read() of " + c, answer, 0);
                CHECK.due("attributes of the parameter " + c, desk.attributes(0), c == 'p' ? 1 : c == 'q' ? 2 : 3);
                CHECK.due("reach of the parameter " + c, desk.reach(0), 9);
            } else if (DIGITS.indexOf(c) >= 0) {
                CHECK.due("read() of " + c, answer, 0);
            } else {
                CHECK.due("read() of " + c, answer, "#(-ASMLP".indexOf(c) >= 0 ? -2 : -1);
                CHECK.due("nodes()", desk.nodes(), 0);
            }
        }
    }

    private static void deepest(String text, int node, int value) {
        Desk desk = Desk.of("x");
        desk.set(0, -2);
        CHECK.due("read() of " + text, desk.read(text), node);
        CHECK.due("value of " + text, desk.value(node), value);
    }

    private static void deepestLines() {
        CHECK.about("Terms, lines as deep and as long as 20 characters allow");
        deepest("(((((((((x)))))))))", 0, -2);
        deepest("-(((((((((x)))))))))", 1, 2);
        deepest("-------------------x", 19, 2);
        deepest("A(A(A(A(A(A(x))))))", 6, 2);
        deepest("-A(A(A(A(A(A(x))))))", 7, -2);
        deepest("-(-(-(-(-(-(x))))))", 6, -2);
        deepest("M(M(M(M(x,x),x),x),x", -21, 0);
        deepest("M(x,M(x,M(x,M(x,x)))", -21, 0);
        deepest("x+x+x+x+x+x+x+x+x+-x", 10, -16);
        deepest("x*1*1*1*1*1*1*1*1*-1", 11, 2);
        deepest("P(P(1,2,3),4,P(5,6,7", -21, 0);
        deepest("P(P(1,2,3),4,5)-#0*9", 10, 28);
    }
}
