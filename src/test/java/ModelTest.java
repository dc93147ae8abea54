/** Long runs of mixed calls: every answer of the program is the model's. */
public final class ModelTest {
    private static final Check CHECK = new Check();
    private static final int RUNS = 1500;
    private static final int CALLS = 512;
    private static final String TYPED = "uvwxyzpqr0123456789##+-*(),ASMLP";
    private static final String[] GIVEN = {
        "A(x)", "S(y)", "M(x,y)", "L(x,y)", "P(x,y,z)", "x*y", "r*A(x)", "p*S(x+y)", "q*L(u,v)",
        "S(50*A(x))", "S(M(x,0))", "A(L(y,q))", "100*100*100", "-x", "x-3", "0*z", "M(p,q)", "L(r,2)",
        "50*A(x)-7", "P(A(x),2,S(y))", "999*50*M(u,v)", "L(-A(x),y)", "S(p)*x", "2*x-3*y",
    };

    private long seed;
    private ConeForms desk;
    private Model model;

    public static void main(String[] args) {
        for (int run = 0; run < RUNS; run++) {
            new ModelTest().run(run);
        }
        CHECK.finish();
    }

    /** A fixed series, so that each run of the test is the same. */
    private int pick(int bound) {
        seed = seed * 6364136223846793005L + 1442695040888963407L;
        return (int) ((seed >>> 33) % bound);
    }

    private void run(int number) {
        CHECK.about("run " + number);
        seed = 77 + 1000003L * number;
        desk = new ConeForms();
        model = new Model();
        int style = number % 4;
        for (int call = 0; call < CALLS; call++) {
            step(style);
        }
    }

    private void step(int style) {
        int what = pick(100);
        if (what < 4 + 8 * style) {
            typeLine(style);
        } else if (what < 40) {
            change();
        } else {
            ask();
        }
    }

    /** A line given, built or at random, sometimes with a slip; styles with many lines fill the nodes. */
    private void typeLine(int style) {
        if (pick(3) > 0) {
            desk.wipe();
            model.wipe();
        }
        int way = pick(10);
        String text = way < 4 ? GIVEN[pick(GIVEN.length)] : way < 9 ? expression(2 + pick(3)) : noise();
        if (pick(8) == 0 && !text.isEmpty()) {
            int at = pick(text.length());
            text = text.substring(0, at) + TYPED.charAt(pick(TYPED.length())) + text.substring(at + pick(2));
        }
        for (int i = 0; i < text.length(); i++) {
            char c = text.charAt(i);
            CHECK.due("type " + c, desk.type(c), model.type(c));
        }
        CHECK.due("read of " + text, desk.read(), model.read());
        CHECK.due("nodes()", desk.nodes(), model.nodes());
        for (int k = -1; k <= desk.nodes(); k++) {
            CHECK.due("attributes(" + k + ")", desk.attributes(k), model.attributes(k));
            CHECK.due("reach(" + k + ")", desk.reach(k), model.reach(k));
            CHECK.due("culprit(" + k + ")", desk.culprit(k), model.culprit(k));
        }
    }

    private String noise() {
        StringBuilder text = new StringBuilder();
        int length = pick(22);
        for (int i = 0; i < length; i++) {
            text.append(TYPED.charAt(pick(TYPED.length())));
        }
        return text.toString();
    }

    private String expression(int depth) {
        int way = depth == 0 ? pick(5) : pick(16);
        String a = way < 5 ? "" : expression(depth - 1);
        String b = way < 10 ? "" : expression(depth - 1);
        switch (way) {
            case 0: case 1: return String.valueOf("uvwxyzpqr".charAt(pick(9)));
            case 2: return Integer.toString(pick(pick(3) == 0 ? 1000 : 12));
            case 3: case 4: return "#" + pick(Math.max(1, desk.nodes() + (pick(6) == 0 ? 2 : 0)));
            case 5: return "-" + a;
            case 6: return "(" + a + ")";
            case 7: case 8: return "A(" + a + ")";
            case 9: return "S(" + a + ")";
            case 10: return a + "+" + b;
            case 11: return a + "-" + b;
            case 12: return a + "*" + b;
            case 13: return "M(" + a + "," + b + ")";
            case 14: return "L(" + a + "," + b + ")";
            default: return "P(" + a + "," + b + "," + expression(0) + ")";
        }
    }

    private int node() {
        return pick(desk.nodes() + 2) - (pick(20) == 0 ? 1 : 0);
    }

    private void change() {
        int a = node();
        int b = node();
        boolean flag = pick(2) == 0;
        int v = pick(3) == 0 ? pick(2000003) - 1000001 : pick(44) - 22;
        switch (pick(12)) {
            case 0:
                CHECK.due("objective(" + a + ", " + flag + ")", desk.objective(a, flag), model.objective(a, flag));
                break;
            case 1:
                boolean same = flag && pick(2) == 0;
                CHECK.due("require(" + same + ", " + a + ", " + b + ")", desk.require(same, a, b),
                        model.require(same, a, b));
                break;
            case 2:
            case 3:
                int j = pick(8) - 1;
                CHECK.due("withdraw(" + j + ")", desk.withdraw(j), model.withdraw(j));
                break;
            case 4:
            case 5:
                CHECK.due("lift()", desk.lift(), model.lift());
                break;
            case 6:
            case 7:
                CHECK.due("compile()", desk.compile(), model.compile());
                break;
            default:
                CHECK.due("set(" + a + ", " + v + ")", desk.set(a, v), model.set(a, v));
                break;
        }
    }

    private void ask() {
        CHECK.due("fits()", desk.fits(), model.fits());
        CHECK.due("cost()", desk.cost(), model.cost());
        CHECK.due("feasible()", desk.feasible(), model.feasible());
        int k = node();
        CHECK.due("value(" + k + ")", desk.value(k), model.value(k));
        CHECK.due("column(" + k + ")", desk.column(k), model.column(k));
        int cone = pick(5) - 1;
        CHECK.due("rows(" + cone + ")", desk.rows(cone), model.rows(cone));
        int row = pick(desk.rows(0) + desk.rows(1) + desk.rows(2) + 4) - 2;
        int column = pick(12) - 2;
        CHECK.due("entry(" + row + ", " + column + ")", desk.entry(row, column), model.entry(row, column));
    }
}
