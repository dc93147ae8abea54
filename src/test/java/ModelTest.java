/** Runs of 512 mixed calls, all that an object is used for: every answer of the program is the model's. */
public final class ModelTest {
    private static final Check CHECK = new Check();
    private static final int RUNS = 12000;
    private static final int CALLS = 512;
    private static final int LINE = 20;
    /** A line wiped, typed and read, and what is asked of its nodes, takes no more calls than this. */
    private static final int CALLS_FOR_A_LINE = 120;
    private static final String TYPED = "uvwxyzpqr0123456789##+-*(),ASMLP";
    private static final String[] GIVEN = {
        "A(x)", "S(y)", "M(x,y)", "L(x,y)", "P(x,y,z)", "x*y", "r*A(x)", "p*S(x+y)", "q*L(u,v)",
        "S(50*A(x))", "S(M(x,0))", "A(L(y,q))", "100*100*100", "-x", "x-3", "0*z", "M(p,q)", "L(r,2)",
        "50*A(x)-7", "P(A(x),2,S(y))", "999*50*M(u,v)", "L(-A(x),y)", "S(p)*x", "2*x-3*y",
    };

    private Chance chance;
    private int calls;
    private ConeForms desk;
    private Model model;

    public static void main(String[] args) {
        for (int run = 0; run < RUNS; run++) {
            new ModelTest().run(run);
        }
        CHECK.finish();
    }

    private void run(int number) {
        CHECK.about("run " + number);
        chance = new Chance(77 + 1000003L * number);
        desk = new ConeForms();
        model = new Model();
        int style = number % 4;
        while (calls < CALLS) {
            step(style);
        }
        if (calls > CALLS) {
            throw new IllegalStateException("the test itself calls an object more than " + CALLS + " times");
        }
    }

    private int pick(int bound) {
        return chance.pick(bound);
    }

    private void same(String call, long got, long want) {
        calls++;
        CHECK.due(call, got, want);
    }

    private void same(String call, boolean got, boolean want) {
        same(call, got ? 1 : 0, want ? 1 : 0);
    }

    private void step(int style) {
        int what = pick(100);
        if (what < 4 + 8 * style && CALLS - calls >= CALLS_FOR_A_LINE) {
            typeLine(style);
        } else if (what < 40) {
            change();
        } else {
            ask();
        }
    }

    /** A line given, built or at random, sometimes with a slip; styles with many lines fill the nodes. */
    private void typeLine(int style) {
        if (pick(3) > 0) {
            desk.wipe();
            model.wipe();
            calls++;
        }
        int before = model.nodes();
        String text = text();
        if (pick(8) == 0 && !text.isEmpty()) {
            int at = pick(text.length());
            text = text.substring(0, at) + chance.pick(TYPED) + text.substring(at + pick(2));
        }
        for (int i = 0; i < text.length(); i++) {
            char c = text.charAt(i);
            same("type " + c, desk.type(c), model.type(c));
        }
        same("read of " + text, desk.read(), model.read());
        same("nodes()", desk.nodes(), model.nodes());
        for (int k = before; k < model.nodes(); k++) {
            askOfNode(k);
        }
        askOfNode(node());
    }

    /** At most two characters more than a line holds. */
    private String text() {
        int way = pick(10);
        if (way < 4) {
            return GIVEN[pick(GIVEN.length)];
        }
        String text = noise();
        for (int tries = 0; tries < 6 && way < 9; tries++) {
            text = chance.expression(2 + pick(3), model.nodes());
            if (text.length() <= LINE) {
                return text;
            }
        }
        return text.substring(0, Math.min(LINE + 2, text.length()));
    }

    private void askOfNode(int k) {
        same("attributes(" + k + ")", desk.attributes(k), model.attributes(k));
        same("reach(" + k + ")", desk.reach(k), model.reach(k));
        same("culprit(" + k + ")", desk.culprit(k), model.culprit(k));
        same("value(" + k + ")", desk.value(k), model.value(k));
    }

    private String noise() {
        StringBuilder text = new StringBuilder();
        int length = pick(LINE + 3);
        for (int i = 0; i < length; i++) {
            text.append(chance.pick(TYPED));
        }
        return text.toString();
    }

    private int node() {
        return pick(model.nodes() + 2) - (pick(20) == 0 ? 1 : 0);
    }

    private void change() {
        int a = node();
        int b = node();
        boolean flag = pick(2) == 0;
        int v = pick(3) == 0 ? pick(2000003) - 1000001 : pick(44) - 22;
        switch (pick(12)) {
            case 0:
                same("objective(" + a + ", " + flag + ")", desk.objective(a, flag), model.objective(a, flag));
                break;
            case 1:
                boolean same = flag && pick(2) == 0;
                same("require(" + same + ", " + a + ", " + b + ")", desk.require(same, a, b),
                        model.require(same, a, b));
                break;
            case 2:
            case 3:
                int j = pick(8) - 1;
                same("withdraw(" + j + ")", desk.withdraw(j), model.withdraw(j));
                break;
            case 4:
            case 5:
                same("lift()", desk.lift(), model.lift());
                break;
            case 6:
            case 7:
                same("compile()", desk.compile(), model.compile());
                break;
            default:
                same("set(" + a + ", " + v + ")", desk.set(a, v), model.set(a, v));
                break;
        }
    }

    private void ask() {
        int k = node();
        switch (pick(8)) {
            case 0:
                same("fits()", desk.fits(), model.fits());
                break;
            case 1:
                same("cost()", desk.cost(), model.cost());
                break;
            case 2:
                same("feasible()", desk.feasible(), model.feasible());
                break;
            case 3:
                same("value(" + k + ")", desk.value(k), model.value(k));
                break;
            case 4:
                same("column(" + k + ")", desk.column(k), model.column(k));
                break;
            case 5:
                int cone = pick(5) - 1;
                same("rows(" + cone + ")", desk.rows(cone), model.rows(cone));
                break;
            default:
                int row = pick(model.rows(0) + model.rows(1) + model.rows(2) + 4) - 2;
                int column = pick(12) - 2;
                same("entry(" + row + ", " + column + ")", desk.entry(row, column), model.entry(row, column));
                break;
        }
    }
}
