/** Promises 1 to 3: a new object, type, wipe. */
public final class LineTest {
    private static final Check CHECK = new Check();

    public static void main(String[] args) {
        newObject();
        typedCharacters();
        fullLine();
        wiping();
        CHECK.finish();
    }

    private static void newObject() {
        CHECK.about("promise 1");
        Desk desk = new Desk();
        CHECK.due("nodes()", desk.nodes(), 0);
        CHECK.due("read() of the empty line", desk.read(), -1);
        CHECK.due("compile() without objective", desk.compile(), -1);
        CHECK.due("withdraw(0)", desk.withdraw(0), false);
        CHECK.due("feasible()", desk.feasible(), true);
        CHECK.due("fits()", desk.fits(), false);
        CHECK.due("lift()", desk.lift(), false);
        CHECK.due("cost()", desk.cost(), 0);
        CHECK.due("entry(-1, -1)", desk.entry(-1, -1), 0);
        CHECK.due("column(0)", desk.column(0), -1);
        for (int cone = -1; cone <= 3; cone++) {
            CHECK.due("rows(" + cone + ")", desk.rows(cone), 0);
        }
        desk.read("x+1");
        CHECK.due("nodes() of another new object", new Desk().nodes(), 0);
    }

    private static void typedCharacters() {
        CHECK.about("promise 2");
        for (int c = 0; c <= 0xFFFF; c++) {
            CHECK.due("type((char) " + c + ")", new Desk().type((char) c), c >= 33 && c <= 126);
        }
        Desk desk = new Desk();
        desk.type('4');
        CHECK.due("type(' ')", desk.type(' '), false);
        desk.type('2');
        CHECK.due("read()", desk.read(), 0);
        CHECK.due("value(0): the refused blank is not on the line", desk.value(0), 42);
    }

    private static void fullLine() {
        CHECK.about("promise 2");
        Desk desk = new Desk();
        for (int i = 0; i < 19; i++) {
            CHECK.due("type('-') as number " + i, desk.type('-'), true);
        }
        CHECK.due("type('x') as the 20th", desk.type('x'), true);
        CHECK.due("type('x') as the 21st", desk.type('x'), false);
        CHECK.due("read()", desk.read(), 19);
        CHECK.due("nodes()", desk.nodes(), 20);
        CHECK.due("type('x') after read made the line empty", desk.type('x'), true);
    }

    private static void wiping() {
        CHECK.about("promise 3");
        Desk desk = new Desk();
        for (int i = 0; i < 20; i++) {
            desk.type('7');
        }
        CHECK.due("read()", desk.read(), -4);
        desk.wipe();
        CHECK.due("read() after wipe", desk.read(), -1);
        CHECK.due("type('x') after wipe", desk.type('x'), true);
        CHECK.due("read()", desk.read(), 0);
        desk.wipe();
        CHECK.due("nodes(): wipe leaves them", desk.nodes(), 1);
    }
}
