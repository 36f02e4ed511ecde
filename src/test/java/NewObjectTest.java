import java.util.NoSuchElementException;

/** Promise 1. */
public final class NewObjectTest {
    public static void main(String[] args) {
        Due due = new Due();
        allDisksAreLive(due);
        allCellsAreBlank(due);
        nothingIsSaidOfThePower(due);
        nothingHasBeenDone(due);
        twoObjectsShareNothing(due);
        due.end();
    }

    /** "All disks are live" */
    private static void allDisksAreLive(Due due) {
        CellRack rack = new CellRack();
        due.is("look(3)", 16, () -> rack.look(3));
        for (int i = 0; i < 16; i++) {
            int disk = i;
            due.is("replace(" + disk + ")", false, () -> rack.replace(disk));
            due.is("fail(" + disk + ")", true, () -> rack.fail(disk));
        }
    }

    /** "nothing is said of the power" */
    private static void nothingIsSaidOfThePower(Due due) {
        CellRack rack = new CellRack();
        due.is("look(1)", 0, () -> rack.look(1));
        due.is("look(2)", -1, () -> rack.look(2));
        for (int i = 0; i < 500; i++) {
            int n = i;
            due.is("write number " + n, true, () -> rack.write(n % 16, n % 66, n));
        }
        due.is("look(2)", -1, () -> rack.look(2));
        due.is("power()", false, rack::power);
    }

    private static void nothingHasBeenDone(Due due) {
        CellRack rack = new CellRack();
        due.is("look(0)", 0, () -> rack.look(0));
        due.is("look(4)", 0, () -> rack.look(4));
        due.is("look(5)", 0, () -> rack.look(5));
        due.refused("outs(0)", NoSuchElementException.class, () -> rack.outs(0));
        due.is("feed(1, 0) on an empty tape", 1, () -> rack.feed(1, 0));
    }

    /** "all cells blank" */
    private static void allCellsAreBlank(Due due) {
        for (int i = 0; i < 16; i++) {
            int disk = i;
            // A new object for each disk: an object is good for 512 calls.
            CellRack rack = new CellRack();
            for (int j = 0; j < 66; j++) {
                int cell = j;
                due.is("cell(" + disk + ", " + cell + ")", 1, () -> rack.cell(disk, cell));
            }
        }
    }

    private static void twoObjectsShareNothing(Due due) {
        CellRack one = new CellRack();
        CellRack other = new CellRack();
        one.feed(8, -1L);
        one.write(0, 0, 9);
        one.fail(1);
        one.lose(1);
        due.is("the other's cell(0, 0)", 1, () -> other.cell(0, 0));
        due.is("the other's cell(1, 0)", 1, () -> other.cell(1, 0));
        due.is("the other's look(2)", -1, () -> other.look(2));
        due.is("the other's write(0, 0, 3)", true, () -> other.write(0, 0, 3));
        due.is("the one's tag(0, 0)", 9, () -> one.tag(0, 0));
    }
}
