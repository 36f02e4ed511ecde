/** Promise 13. */
public final class PowerTest {
    public static void main(String[] args) {
        Due due = new Due();
        thePowerIsOnAgain(due);
        nothingIsSaidOfIt(due);
        falseWhenItWasOn(due);
        allElseStays(due);
        due.end();
    }

    /** "The power is on again .. whether it was off." */
    private static void thePowerIsOnAgain(Due due) {
        CellRack rack = new CellRack();
        rack.write(0, 0, 7);
        for (int i = 1; i <= 3; i++) {
            int n = i;
            Due.turnOff(rack);
            due.is("look(1)", 1, () -> rack.look(1));
            due.is("power() when it is off", true, rack::power);
            due.is("look(1)", 0, () -> rack.look(1));
            due.is("a write is done", true, () -> rack.write(0, 0, 9));
            due.is("look(0)", 1 + n, () -> rack.look(0));
        }
    }

    /** ".. and nothing is said of it" */
    private static void nothingIsSaidOfIt(Due due) {
        CellRack rack = new CellRack();
        Due.turnOff(rack);
        rack.power();
        due.is("look(2)", -1, () -> rack.look(2));
        for (int i = 0; i < 100; i++) {
            due.is("writes are done", true, () -> rack.write(0, 0, 9));
        }
        rack.lose(2);
        due.is("power() before it is lost", false, rack::power);
        due.is("look(2)", -1, () -> rack.look(2));
        for (int i = 0; i < 3; i++) {
            due.is("writes are done", true, () -> rack.write(0, 0, 9));
        }
    }

    /** "whether it was off." */
    private static void falseWhenItWasOn(Due due) {
        CellRack rack = new CellRack();
        due.is("power() at first", false, rack::power);
        due.is("power() once more", false, rack::power);
        rack.lose(1);
        due.is("power() when it is about to be lost", false, rack::power);
        Due.turnOff(rack);
        due.is("power() when it is off", true, rack::power);
        due.is("power() once more", false, rack::power);
    }

    private static void allElseStays(Due due) {
        CellRack rack = new CellRack();
        rack.feed(8, 77);
        rack.write(5, 5, 7);
        rack.write(5, 6, 8);
        rack.corrupt(5, 6, 0, 1, 1);
        rack.fail(9);
        rack.read(5, 5);
        Due.turnOff(rack);
        rack.feed(2, 3);
        rack.power();
        due.is("tag(5, 5)", 7, () -> rack.tag(5, 5));
        due.is("cell(5, 6)", 3, () -> rack.cell(5, 6));
        due.is("cell(9, 0)", 0, () -> rack.cell(9, 0));
        due.is("outs(0)", 77, () -> rack.outs(0));
        due.is("look(0)", 2, () -> rack.look(0));
        due.is("look(3)", 15, () -> rack.look(3));
        due.is("feed(1, 1)", 3, () -> rack.feed(1, 1));
    }
}
