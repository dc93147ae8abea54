/** The edges that 'Terms' and the promises 1 to 3 name: the object, its line, type and wipe. */
public final class LineEdgesTest {
    private static final Check CHECK = new Check();
    private static final int LINE = 20;
    private static final int LAST_CALL = 512;

    public static void main(String[] args) {
        upTo20Characters();
        lastOf20IsRead();
        emptyLine();
        noNodes();
        noObjective();
        noRequirements();
        noForm();
        objectsApart();
        charactersThatGo();
        charactersThatDoNot();
        refusedCharacterChangesNothing();
        lineHas20Characters();
        atTheEnd();
        wipeOfEveryLength();
        wipeLeavesTheRest();
        the512thCall();
        CHECK.finish();
    }

    private static Desk typed(int characters) {
        Desk desk = new Desk();
        desk.typeAll("(".repeat(characters));
        return desk;
    }

    private static void upTo20Characters() {
        CHECK.about("Terms, 'THE LINE holds up to 20 characters'");
        for (int length = 0; length < LINE; length++) {
            Desk desk = typed(length);
            CHECK.due("type('(') behind " + length, desk.type('('), true);
            CHECK.due("read(): each of them is on the line", desk.read(), -1 - (length + 1));
        }
        CHECK.refused("type('(') behind 20", typed(LINE), d -> d.type('('));
    }

    private static void lastOf20IsRead() {
        CHECK.about("Terms, 'THE LINE holds up to 20 characters'");
        Desk desk = new Desk();
        CHECK.due("read() of 19 signs and x", desk.read("-------------------x"), 19);
        desk = new Desk();
        CHECK.due("read() of 20 characters", desk.read("100+100+100+100+10*8"), 7);
        CHECK.due("value by the 20th character", desk.value(7), 480);
        CHECK.refused("read() of 20 characters with a wrong last one", typed19AndWrong(), Desk::read, -20);
    }

    private static Desk typed19AndWrong() {
        Desk desk = new Desk();
        desk.typeAll("100+100+100+100+100!");
        return desk;
    }

    private static void emptyLine() {
        CHECK.about("promise 1, 'An empty line'");
        CHECK.refused("read()", new Desk(), Desk::read, -1);
        Desk desk = new Desk();
        for (int i = 0; i < LINE; i++) {
            CHECK.due("type('x') as number " + i, desk.type('x'), true);
        }
        CHECK.due("type('x') as number 20", desk.type('x'), false);
    }

    private static void noNodes() {
        CHECK.about("promise 1, 'no nodes'");
        Desk desk = new Desk();
        CHECK.due("nodes()", desk.nodes(), 0);
        for (int k : new int[] {Integer.MIN_VALUE, -1, 0, 1, 35, 36, Integer.MAX_VALUE}) {
            CHECK.due("attributes(" + k + ")", desk.attributes(k), -1);
            CHECK.due("reach(" + k + ")", desk.reach(k), 0);
            CHECK.due("value(" + k + ")", desk.value(k), 0);
            CHECK.due("culprit(" + k + ")", desk.culprit(k), -2);
            CHECK.due("column(" + k + ")", desk.column(k), -1);
            CHECK.refused("set(" + k + ", 0)", desk, d -> d.set(k, 0));
            CHECK.refused("objective(" + k + ", true)", desk, d -> d.objective(k, true));
            CHECK.refused("require(false, " + k + ", " + k + ")", desk, d -> d.require(false, k, k));
        }
    }

    private static void noObjective() {
        CHECK.about("promise 1, 'no objective'");
        CHECK.refused("compile()", new Desk(), Desk::compile, -1);
        CHECK.refused("compile() when there are nodes", Desk.of("x"), Desk::compile, -1);
    }

    private static void noRequirements() {
        CHECK.about("promise 1, 'no requirements'");
        Desk desk = Desk.of("x");
        for (int j = -1; j <= 6; j++) {
            int number = j;
            CHECK.refused("withdraw(" + j + ")", desk, d -> d.withdraw(number));
        }
        CHECK.due("feasible()", desk.feasible(), true);
        desk.objective(0, true);
        desk.compile();
        CHECK.due("rows(0)", desk.rows(0), 0);
        CHECK.due("rows(1)", desk.rows(1), 0);
    }

    private static void noForm() {
        CHECK.about("promise 1, 'no form'");
        Desk desk = new Desk();
        for (int cone = 0; cone <= 2; cone++) {
            CHECK.due("rows(" + cone + ")", desk.rows(cone), 0);
        }
        CHECK.due("entry(-1, -1)", desk.entry(-1, -1), 0);
        CHECK.due("fits()", desk.fits(), false);
        CHECK.due("cost()", desk.cost(), 0);
        CHECK.refused("lift()", desk, Desk::lift);
    }

    private static void objectsApart() {
        CHECK.about("promise 1, a new object has nothing of another's");
        Desk other = Desk.busy();
        Desk desk = new Desk();
        CHECK.due("nodes()", desk.nodes(), 0);
        CHECK.due("read()", desk.read(), -1);
        CHECK.due("compile()", desk.compile(), -1);
        CHECK.due("read(\"7\")", desk.read("7"), 0);
        CHECK.due("nodes() of the other", other.nodes(), 11);
        CHECK.due("value(0) of the other", other.value(0), -7);
        CHECK.due("cost() of the other", other.cost(), 17);
        Desk one = new Desk();
        Desk two = new Desk();
        for (int i = 1; i <= 3; i++) {
            one.type((char) ('0' + i));
            two.type((char) ('9' - i));
        }
        one.read();
        two.read();
        CHECK.due("value(0) of the line typed here", one.value(0), 123);
        CHECK.due("value(0) of the line typed there", two.value(0), 876);
    }

    private static void charactersThatGo() {
        CHECK.about("promise 2, 'Puts c at the end of the line and answers true'");
        for (int c = 33; c <= 126; c++) {
            CHECK.due("type((char) " + c + ") as the first", new Desk().type((char) c), true);
            CHECK.due("type((char) " + c + ") as the 20th", typed(LINE - 1).type((char) c), true);
        }
    }

    private static void charactersThatDoNot() {
        CHECK.about("promise 2, 'false when c is not 33 .. 126'");
        Desk desk = new Desk();
        for (int c = 0; c <= Character.MAX_VALUE; c++) {
            if (desk.callsLeft() == 0) {
                desk = new Desk();
            }
            if (c < 33 || c > 126) {
                CHECK.due("type((char) " + c + ")", desk.type((char) c), false);
            }
        }
    }

    private static void refusedCharacterChangesNothing() {
        CHECK.about("promise 2, 'false when c is not 33 .. 126', and nothing changes");
        int[] wrong = {0, 9, 10, 13, 31, 32, 127, 128, 160, 255, 256 + 'x', 0x7FFF, 0x8000 + 'x', 0xFFFF};
        for (int c : wrong) {
            CHECK.refused("type((char) " + c + ") on an empty line", new Desk(), d -> d.type((char) c));
            CHECK.refused("type((char) " + c + ") on a line", Desk.busy(), d -> d.type((char) c));
        }
        Desk desk = new Desk();
        desk.type('4');
        desk.type(' ');
        desk.type('2');
        desk.read();
        CHECK.due("value(0): 4, a refused blank, 2", desk.value(0), 42);
    }

    private static void lineHas20Characters() {
        CHECK.about("promise 2, 'or the line has 20 characters'");
        for (int c = 33; c <= 126; c++) {
            char next = (char) c;
            Desk desk = typed(LINE);
            CHECK.due("type((char) " + c + ") as the 21st", desk.type(next), false);
            CHECK.due("read(): the 20 are there yet", desk.read(), -21);
        }
        Desk desk = new Desk();
        desk.typeAll("x+y-(1*2)+M(3,4)---z");
        CHECK.refused("type('1') as the 21st", desk, d -> d.type('1'));
        desk = new Desk();
        desk.typeAll("x+y-(1*2)+M(3,4)---");
        CHECK.due("type('+') as the 20th", desk.type('+'), true);
        CHECK.refused("type('1') as the 21st", desk, d -> d.type('1'));
        CHECK.refused("type(' ') as the 21st", desk, d -> d.type(' '));
    }

    private static void atTheEnd() {
        CHECK.about("promise 2, 'at the end of the line'");
        Desk desk = new Desk();
        desk.type('1');
        desk.type('2');
        desk.type('3');
        desk.read();
        CHECK.due("value(0)", desk.value(0), 123);
    }

    private static void wipeOfEveryLength() {
        CHECK.about("promise 3, 'Makes the line empty'");
        for (int length = 0; length <= LINE; length++) {
            Desk desk = typed(length);
            desk.wipe();
            CHECK.due("read() after wipe of " + length, desk.read(), -1);
            for (int i = 0; i < LINE; i++) {
                CHECK.due("type('-') after wipe of " + length, desk.type('-'), true);
            }
            CHECK.due("type('-') as the 21st", desk.type('-'), false);
            desk.wipe();
            desk.wipe();
            CHECK.due("read() after wipe twice", desk.read(), -1);
        }
    }

    private static void wipeLeavesTheRest() {
        CHECK.about("promise 3, wipe changes the line alone");
        Desk desk = Desk.busy();
        Desk other = Desk.busy();
        other.wipe();
        CHECK.due("nodes()", other.nodes(), desk.nodes());
        for (int k = 0; k < 11; k++) {
            CHECK.due("value(" + k + ")", other.value(k), desk.value(k));
            CHECK.due("attributes(" + k + ")", other.attributes(k), desk.attributes(k));
        }
        CHECK.due("cost(): form and own values stay", other.cost(), 17);
        CHECK.due("rows(0): the requirements stay", other.rows(0), 1);
        CHECK.due("withdraw(2)", other.withdraw(2), true);
        CHECK.due("compile(): the objective stays", other.compile(), 4);
    }

    private static void the512thCall() {
        CHECK.about("'An object is used for at most 512 calls'");
        Desk desk = Desk.of("A(x)");
        desk.objective(1, true);
        desk.compile();
        while (desk.callsLeft() > 3) {
            int v = desk.callsLeft() % 41 - 20;
            desk.set(0, v);
            desk.lift();
            CHECK.due("value(0)", desk.value(0), v);
        }
        while (desk.callsLeft() > 1) {
            desk.set(0, -13);
            if (desk.callsLeft() > 1) {
                desk.lift();
            }
        }
        CHECK.due("value(1) as call " + LAST_CALL, desk.value(1), 13);
    }
}
