import java.util.function.Supplier;

/** 'A call that is refused changes nothing': each call that can be refused, for each reason, in several states. */
public final class RefusalTest {
    private static final Check CHECK = new Check();
    private static final int[] ENDS = {Integer.MIN_VALUE, -1, 36, Integer.MAX_VALUE};

    public static void main(String[] args) {
        everywhere("a new object", Desk::new);
        everywhere("a busy desk", Desk::busy);
        everywhere("a full desk", Desk::full);
        everywhere("a desk that can't be compiled", RefusalTest::unwanted);
        everywhere("a desk with six requirements", RefusalTest::required);
        linesThatAreRefused();
        noMoreRequirements();
        noMoreCharacters();
        noCompile();
        noLift();
        oneAfterTheOther();
        CHECK.finish();
    }

    private static Desk unwanted() {
        Desk desk = Desk.busy();
        desk.objective(9, true);
        return desk;
    }

    private static Desk required() {
        Desk desk = Desk.busy();
        for (int j = 3; j < 6; j++) {
            desk.require(j == 4, 0, 10);
        }
        desk.compile();
        desk.set(1, 99);
        return desk;
    }

    private static void everywhere(String state, Supplier<Desk> made) {
        CHECK.about("'A call that is refused changes nothing', " + state);
        for (char c : new char[] {0, 32, 127, 0xFFFF}) {
            CHECK.refused("type((char) " + (int) c + ")", made.get(), d -> d.type(c));
        }
        for (int k : ENDS) {
            CHECK.refused("set(" + k + ", 1)", made.get(), d -> d.set(k, 1));
            CHECK.refused("objective(" + k + ", false)", made.get(), d -> d.objective(k, false));
            CHECK.refused("require(true, " + k + ", 0)", made.get(), d -> d.require(true, k, 0));
            CHECK.refused("require(false, 0, " + k + ")", made.get(), d -> d.require(false, 0, k));
            CHECK.refused("withdraw(" + k + ")", made.get(), d -> d.withdraw(k));
        }
        for (int v : new int[] {Integer.MIN_VALUE, -21, 21, Integer.MAX_VALUE}) {
            CHECK.refused("set(0, " + v + ")", made.get(), d -> d.set(0, v));
        }
    }

    private static void linesThatAreRefused() {
        CHECK.about("'A call that is refused changes nothing', read");
        String[] texts = {"", "x+", "u~v", "z+#77", "z*999*999*9"};
        int[] answers = {-1, -3, -2, ConeForms.ABSENT, ConeForms.LARGE};
        for (int i = 0; i < texts.length; i++) {
            for (Desk desk : new Desk[] {new Desk(), Desk.busy(), unwanted(), required()}) {
                desk.wipe();
                desk.typeAll(texts[i]);
                CHECK.refused("read() of " + texts[i], desk, Desk::read, answers[i]);
            }
        }
        Desk desk = Desk.full();
        desk.objective(35, true);
        desk.compile();
        desk.set(35, 8);
        desk.typeAll("#35+z");
        CHECK.refused("read() of #35+z", desk, Desk::read, ConeForms.FULL);
    }

    private static void noMoreRequirements() {
        CHECK.about("'A call that is refused changes nothing', a seventh requirement");
        CHECK.refused("require(false, 0, 10)", required(), d -> d.require(false, 0, 10));
        CHECK.refused("require(true, 9, 9)", required(), d -> d.require(true, 9, 9));
    }

    private static void noMoreCharacters() {
        CHECK.about("'A call that is refused changes nothing', a 21st character");
        Desk desk = Desk.busy();
        desk.typeAll("1+2)+(3+4)*(5+6");
        CHECK.refused("type(')')", desk, d -> d.type(')'));
        CHECK.refused("type('0')", desk, d -> d.type('0'));
    }

    private static void noCompile() {
        CHECK.about("'A call that is refused changes nothing', compile");
        CHECK.refused("compile() without an objective", new Desk(), Desk::compile, -1);
        CHECK.refused("compile() without an objective", Desk.full(), Desk::compile, -1);
        CHECK.refused("compile() of x*y", unwanted(), Desk::compile, -2 - 9);
        Desk desk = Desk.busy();
        desk.require(false, 0, 3);
        CHECK.refused("compile() of x <= S(y)", desk, Desk::compile, -2 - 3);
    }

    private static void noLift() {
        CHECK.about("'A call that is refused changes nothing', lift");
        for (Desk desk : new Desk[] {new Desk(), Desk.full(), unwanted()}) {
            CHECK.refused("lift()", desk, Desk::lift);
        }
    }

    private static void oneAfterTheOther() {
        CHECK.about("'A call that is refused changes nothing', many in a row");
        CHECK.refused("all of them", required(), d -> d.type(' ') | d.read() >= 0 | d.set(0, 21) | d.set(1, 1000001)
                | d.set(5, -1) | d.set(7, 1) | d.set(4, 0) | d.set(10, 30) | d.set(11, 0) | d.objective(11, false)
                | d.require(false, 11, 0) | d.require(false, 0, 0) | d.withdraw(6) | d.withdraw(-1));
        CHECK.refused("all of them", unwanted(), d -> d.compile() >= 0 | d.lift() | d.set(1, 5) | d.read() >= 0
                | d.objective(-1, true) | d.withdraw(3) | d.compile() >= 0);
    }
}
