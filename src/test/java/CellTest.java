/** Promise 7. */
public final class CellTest {
    public static void main(String[] args) {
        Due due = new Due();
        itsDiskIsNotLive(due);
        itIsBlank(due);
        itIsValid(due);
        itIsNeither(due);
        noSuchCell(due);
        due.end();
    }

    /** "A cell: 0 its disk is not live" */
    private static void itsDiskIsNotLive(Due due) {
        CellRack rack = new CellRack();
        rack.write(15, 65, 0);
        rack.write(15, 64, 0);
        rack.corrupt(15, 64, 0, 1, 1);
        rack.fail(15);
        due.is("a valid cell of no live disk", 0, () -> rack.cell(15, 65));
        due.is("a broken cell of no live disk", 0, () -> rack.cell(15, 64));
        due.is("a blank cell of no live disk", 0, () -> rack.cell(15, 0));
        due.is("a cell of the disk before", 1, () -> rack.cell(14, 65));
        rack.replace(15);
        due.is("a cell of a new disk", 1, () -> rack.cell(15, 65));
        due.is("another one", 1, () -> rack.cell(15, 64));
    }

    /** "1 it is blank" */
    private static void itIsBlank(Due due) {
        CellRack rack = new CellRack();
        due.is("a cell of a new object", 1, () -> rack.cell(15, 65));
        rack.write(15, 65, 0);
        due.is("a written cell's neighbour", 1, () -> rack.cell(15, 64));
        rack.corrupt(15, 64, 0, 1, 1);
        due.is("one that was to change by itself", 1, () -> rack.cell(15, 64));
    }

    /** "2 valid" */
    private static void itIsValid(Due due) {
        CellRack rack = new CellRack();
        rack.write(0, 0, 0);
        due.is("a written cell", 2, () -> rack.cell(0, 0));
        rack.corrupt(0, 0, 0, 1, 1);
        rack.write(0, 0, 0);
        due.is("a broken cell that was written over", 2, () -> rack.cell(0, 0));
        Due.turnOff(rack);
        due.is("a valid cell with the power off", 2, () -> rack.cell(0, 0));
    }

    /** "3 neither" */
    private static void itIsNeither(Due due) {
        CellRack rack = new CellRack();
        rack.write(15, 65, 0);
        rack.corrupt(15, 65, 65, 64, 1);
        due.is("a broken cell", 3, () -> rack.cell(15, 65));
        rack.corrupt(15, 65, 69, 1, 1);
        due.is("a cell broken twice", 3, () -> rack.cell(15, 65));
        rack.corrupt(15, 65, 65, 64, 1);
        due.is("a cell mended by half", 3, () -> rack.cell(15, 65));
        rack.corrupt(15, 65, 69, 1, 1);
        due.is("a cell mended", 2, () -> rack.cell(15, 65));
    }

    /** "Throws IllegalArgumentException when there is no such cell." */
    private static void noSuchCell(Due due) {
        CellRack rack = new CellRack();
        for (int[] at : Due.CORNERS) {
            due.is("cell(" + at[0] + ", " + at[1] + ")", 1, () -> rack.cell(at[0], at[1]));
        }
        for (int[] at : Due.NO_CELLS) {
            due.refused("cell(" + at[0] + ", " + at[1] + ")", IllegalArgumentException.class,
                () -> rack.cell(at[0], at[1]));
        }
    }
}
