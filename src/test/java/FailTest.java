/** Promise 9. */
public final class FailTest {
    public static void main(String[] args) {
        Due due = new Due();
        aDiskIsLiveNoMoreWithAllItsCells(due);
        falseWhenItWasNotLive(due);
        allDisksMayFail(due);
        itsCellsDoNotComeBack(due);
        powerAndTapeStay(due);
        noSuchDisk(due);
        due.end();
    }

    /** "A disk is live no more, with all its cells: true" */
    private static void aDiskIsLiveNoMoreWithAllItsCells(Due due) {
        CellRack rack = new CellRack();
        rack.write(1, 0, 1);
        rack.write(1, 65, 2);
        rack.corrupt(1, 65, 0, 1, 1);
        rack.write(0, 65, 3);
        rack.write(2, 0, 4);
        due.is("fail(1)", true, () -> rack.fail(1));
        for (int i = 0; i < 66; i++) {
            int cell = i;
            due.is("cell(1, " + cell + ")", 0, () -> rack.cell(1, cell));
            due.is("cell(3, " + cell + ")", 1, () -> rack.cell(3, cell));
        }
        due.is("cell(0, 65)", 2, () -> rack.cell(0, 65));
        due.is("cell(2, 0)", 2, () -> rack.cell(2, 0));
        due.is("look(3)", 15, () -> rack.look(3));
        due.is("look(4)", 2, () -> rack.look(4));
        due.is("look(5)", 0, () -> rack.look(5));
        due.is("look(0): what was done was done", 4, () -> rack.look(0));
    }

    /** "false when it was not live." */
    private static void falseWhenItWasNotLive(Due due) {
        int[] disks = {0, 1, 15};
        for (int disk : disks) {
            CellRack rack = new CellRack();
            due.is("fail(" + disk + ")", true, () -> rack.fail(disk));
            due.is("fail(" + disk + ") once more", false, () -> rack.fail(disk));
            due.is("and once more", false, () -> rack.fail(disk));
            due.is("look(3)", 15, () -> rack.look(3));
            due.is("cell(" + disk + ", 0)", 0, () -> rack.cell(disk, 0));
            rack.replace(disk);
            due.is("fail(" + disk + ") of the new one", true, () -> rack.fail(disk));
        }
    }

    private static void allDisksMayFail(Due due) {
        CellRack rack = new CellRack();
        rack.write(15, 65, 0);
        for (int i = 0; i < 16; i++) {
            int disk = i;
            due.is("fail(" + disk + ")", true, () -> rack.fail(disk));
            due.is("look(3)", 15 - disk, () -> rack.look(3));
        }
        due.is("look(4) of no live disk", 0, () -> rack.look(4));
        due.is("look(5) of no live disk", 0, () -> rack.look(5));
        due.is("fail(0) of no live disk", false, () -> rack.fail(0));
        due.is("look(3) of no live disk", 0, () -> rack.look(3));
    }

    private static void itsCellsDoNotComeBack(Due due) {
        CellRack rack = new CellRack();
        rack.feed(8, -1L);
        rack.write(8, 8, 8);
        rack.fail(8);
        rack.replace(8);
        due.is("cell(8, 8)", 1, () -> rack.cell(8, 8));
        rack.write(8, 8, 0);
        due.is("at(8, 8, 0)", 0, () -> rack.at(8, 8, 0));
        due.is("tag(8, 8)", 0, () -> rack.tag(8, 8));
    }

    private static void powerAndTapeStay(Due due) {
        CellRack rack = new CellRack();
        Due.turnOff(rack);
        rack.feed(3, 1);
        due.is("fail with the power off", true, () -> rack.fail(0));
        due.is("look(1)", 1, () -> rack.look(1));
        due.is("feed(1, 1)", 4, () -> rack.feed(1, 1));
    }

    /** "Throws IllegalArgumentException when there is none." */
    private static void noSuchDisk(Due due) {
        CellRack rack = new CellRack();
        for (int disk : Due.NO_DISKS) {
            due.refused("fail(" + disk + ")", IllegalArgumentException.class, () -> rack.fail(disk));
        }
        due.is("look(3)", 16, () -> rack.look(3));
        due.is("fail(0)", true, () -> rack.fail(0));
        due.is("fail(15)", true, () -> rack.fail(15));
        for (int disk : Due.NO_DISKS) {
            due.refused("fail(" + disk + ")", IllegalArgumentException.class, () -> rack.fail(disk));
        }
        due.is("look(3)", 14, () -> rack.look(3));
    }
}
