/** Promise 12. */
public final class LoseTest {
    public static void main(String[] args) {
        Due due = new Due();
        theWriteItIsLostAt(due);
        thePowerStaysOnUntilThen(due);
        theNewWordCounts(due);
        aWriteThatThrowsIsNone(due);
        onlyWritesCount(due);
        theMostThatCanBeSaid(due);
        belowOne(due);
        thePowerIsOff(due);
        due.end();
    }

    /** "The power is lost at the n-th write from now on .. that one and all behind it are not done" */
    private static void theWriteItIsLostAt(Due due) {
        int[] counts = {1, 2, 3, 4, 5, 66};
        for (int n : counts) {
            CellRack rack = new CellRack();
            rack.write(2, 2, 2);
            due.is("lose(" + n + ")", "said", () -> Due.lost(rack, n));
            for (int i = 0; i < n - 1; i++) {
                int left = n - 1 - i;
                due.is("look(2)", left, () -> rack.look(2));
                due.is("a write before", true, () -> rack.write(0, left, 1));
            }
            due.is("look(1)", 0, () -> rack.look(1));
            due.is("look(2)", 0, () -> rack.look(2));
            due.is("the write it is lost at", false, () -> rack.write(1, 0, 1));
            due.is("its cell", 1, () -> rack.cell(1, 0));
            due.is("look(1)", 1, () -> rack.look(1));
            due.is("a write behind", false, () -> rack.write(1, 0, 1));
            due.is("and another one", false, () -> rack.write(1, 1, 1));
            due.is("its cell", 1, () -> rack.cell(1, 1));
            due.is("look(0)", n, () -> rack.look(0));
            due.is("look(2)", 0, () -> rack.look(2));
        }
    }

    /** ".. and the power is off": at that write, and not before. */
    private static void thePowerStaysOnUntilThen(Due due) {
        CellRack rack = new CellRack();
        rack.lose(1);
        due.is("look(1) before", 0, () -> rack.look(1));
        due.is("lose(1) before", "said", () -> Due.lost(rack, 1));
        due.is("power() before", false, rack::power);
        rack.lose(1);
        rack.write(0, 0, 0);
        due.is("look(1) then", 1, () -> rack.look(1));
        due.refused("lose(1) then", IllegalStateException.class, () -> Due.lost(rack, 1));
        due.is("power() then", true, rack::power);
        due.is("lose(1) with the power on again", "said", () -> Due.lost(rack, 1));
        due.is("look(2)", 0, () -> rack.look(2));
        due.is("the write it is lost at", false, () -> rack.write(0, 0, 0));
    }

    /** "(in place of what was said before)" */
    private static void theNewWordCounts(Due due) {
        CellRack rack = new CellRack();
        rack.lose(1);
        due.is("lose(3) in place of lose(1)", "said", () -> Due.lost(rack, 3));
        due.is("look(2)", 2, () -> rack.look(2));
        due.is("write", true, () -> rack.write(0, 0, 0));
        due.is("lose(3) in place of what is left of it", "said", () -> Due.lost(rack, 3));
        due.is("look(2)", 2, () -> rack.look(2));
        due.is("write", true, () -> rack.write(0, 0, 0));
        due.is("write", true, () -> rack.write(0, 0, 0));
        due.is("lose(2) in place of lose at the next", "said", () -> Due.lost(rack, 2));
        due.is("write", true, () -> rack.write(0, 0, 0));
        due.is("lose(9)", "said", () -> Due.lost(rack, 9));
        due.is("lose(1) in place of lose(9)", "said", () -> Due.lost(rack, 1));
        due.is("write", false, () -> rack.write(0, 0, 0));
        due.is("look(0)", 4, () -> rack.look(0));
    }

    private static void aWriteThatThrowsIsNone(Due due) {
        CellRack rack = new CellRack();
        rack.lose(2);
        rack.fail(3);
        due.refused("a write, disk not live", IllegalStateException.class, () -> rack.write(3, 0, 0));
        due.refused("a write with no such tag", IllegalArgumentException.class, () -> rack.write(0, 0, -1));
        due.refused("a write with no such cell", IllegalArgumentException.class, () -> rack.write(0, 66, 0));
        due.is("look(2)", 1, () -> rack.look(2));
        due.is("write", true, () -> rack.write(0, 0, 0));
        due.refused("a write, disk not live", IllegalStateException.class, () -> rack.write(3, 0, 0));
        due.is("look(1)", 0, () -> rack.look(1));
        due.is("write", false, () -> rack.write(0, 0, 0));
        due.is("look(1)", 1, () -> rack.look(1));
    }

    private static void onlyWritesCount(Due due) {
        CellRack rack = new CellRack();
        rack.write(0, 0, 0);
        rack.lose(1);
        rack.feed(1, 1);
        rack.read(0, 0);
        rack.outs(0);
        rack.tag(0, 0);
        rack.cell(0, 0);
        rack.at(0, 0, 0);
        rack.corrupt(0, 0, 0, 1, 1);
        rack.fail(3);
        rack.replace(3);
        due.is("look(2)", 0, () -> rack.look(2));
        due.is("look(1)", 0, () -> rack.look(1));
        due.is("write", false, () -> rack.write(3, 0, 0));
    }

    /** "The power is lost at the n-th write from now on": n may be as large as an int can be. */
    private static void theMostThatCanBeSaid(Due due) {
        CellRack rack = new CellRack();
        rack.write(0, 0, 0);
        due.is("lose(Integer.MAX_VALUE)", "said", () -> Due.lost(rack, Integer.MAX_VALUE));
        due.is("look(2)", Integer.MAX_VALUE - 1, () -> rack.look(2));
        due.is("write", true, () -> rack.write(0, 0, 0));
        due.is("look(2)", Integer.MAX_VALUE - 2, () -> rack.look(2));
        due.is("look(1)", 0, () -> rack.look(1));
    }

    /** "Throws IllegalArgumentException when n is below 1" */
    private static void belowOne(Due due) {
        CellRack rack = new CellRack();
        int[] wrong = {0, -1, -2, Integer.MIN_VALUE, Integer.MIN_VALUE + 1};
        for (int n : wrong) {
            due.refused("lose(" + n + ")", IllegalArgumentException.class, () -> Due.lost(rack, n));
        }
        due.is("look(2): nothing is said", -1, () -> rack.look(2));
        rack.lose(2);
        for (int n : wrong) {
            due.refused("lose(" + n + ")", IllegalArgumentException.class, () -> Due.lost(rack, n));
        }
        due.is("look(2) is as it was", 1, () -> rack.look(2));
        due.is("lose(1), the least", "said", () -> Due.lost(rack, 1));
        due.is("look(2)", 0, () -> rack.look(2));
    }

    /** "IllegalStateException when it is off." */
    private static void thePowerIsOff(Due due) {
        CellRack rack = new CellRack();
        Due.turnOff(rack);
        due.refused("lose(0), power off", IllegalArgumentException.class, () -> Due.lost(rack, 0));
        due.refused("lose(1), power off", IllegalStateException.class, () -> Due.lost(rack, 1));
        due.refused("lose(9), power off", IllegalStateException.class, () -> Due.lost(rack, 9));
        due.refused("lose(Integer.MAX_VALUE), power off", IllegalStateException.class,
            () -> Due.lost(rack, Integer.MAX_VALUE));
        due.is("look(1)", 1, () -> rack.look(1));
        due.is("look(2)", 0, () -> rack.look(2));
        rack.power();
        due.is("look(2): nothing is said", -1, () -> rack.look(2));
    }
}
