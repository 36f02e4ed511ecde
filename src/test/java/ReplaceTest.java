/** Promise 10. */
public final class ReplaceTest {
    public static void main(String[] args) {
        Due due = new Due();
        aLiveOneWithBlankCells(due);
        falseWhenItWasLive(due);
        allDisksMayBeReplaced(due);
        powerAndCountsStay(due);
        noSuchDisk(due);
        due.end();
    }

    /** "A disk that is not live is replaced by a live one with blank cells: true" */
    private static void aLiveOneWithBlankCells(Due due) {
        int[] disks = {0, 7, 15};
        for (int disk : disks) {
            CellRack rack = new CellRack();
            rack.write(disk, 65, 1);
            rack.write(disk, 0, 2);
            rack.corrupt(disk, 0, 0, 1, 1);
            rack.write((disk + 1) % 16, 0, 3);
            rack.fail(disk);
            due.is("replace(" + disk + ")", true, () -> rack.replace(disk));
            for (int i = 0; i < 66; i++) {
                int cell = i;
                due.is("cell(" + disk + ", " + cell + ")", 1, () -> rack.cell(disk, cell));
            }
            due.is("corrupt of its cell", false, () -> rack.corrupt(disk, 65, 0, 0, 1));
            due.is("look(3)", 16, () -> rack.look(3));
            due.is("look(4)", 1, () -> rack.look(4));
            due.is("look(5)", 0, () -> rack.look(5));
            due.is("write into it", true, () -> rack.write(disk, 65, 9));
            due.is("tag(" + disk + ", 65)", 9, () -> rack.tag(disk, 65));
            due.is("look(0) counts over all disks", 4, () -> rack.look(0));
        }
    }

    /** "false when it was live." */
    private static void falseWhenItWasLive(Due due) {
        int[] disks = {0, 7, 15};
        for (int disk : disks) {
            CellRack rack = new CellRack();
            due.is("replace of a blank disk", false, () -> rack.replace(disk));
            rack.write(disk, 65, 7);
            rack.write(disk, 0, 2);
            rack.corrupt(disk, 0, 0, 1, 1);
            rack.fail((disk + 1) % 16);
            due.is("replace of a live disk", false, () -> rack.replace(disk));
            due.is("its tag is as it was", 7, () -> rack.tag(disk, 65));
            due.is("its broken cell, too", 3, () -> rack.cell(disk, 0));
            due.is("look(3)", 15, () -> rack.look(3));
            rack.fail(disk);
            rack.replace(disk);
            due.is("replace once more", false, () -> rack.replace(disk));
            due.is("look(3)", 15, () -> rack.look(3));
        }
    }

    private static void allDisksMayBeReplaced(Due due) {
        CellRack rack = new CellRack();
        for (int disk = 0; disk < 16; disk++) {
            rack.fail(disk);
        }
        for (int i = 0; i < 16; i++) {
            int disk = i;
            due.is("replace(" + disk + ")", true, () -> rack.replace(disk));
            due.is("look(3)", disk + 1, () -> rack.look(3));
        }
    }

    private static void powerAndCountsStay(Due due) {
        CellRack rack = new CellRack();
        rack.write(0, 0, 0);
        Due.turnOff(rack);
        rack.fail(0);
        due.is("replace with the power off", true, () -> rack.replace(0));
        due.is("look(0)", 1, () -> rack.look(0));
        due.is("look(1)", 1, () -> rack.look(1));
    }

    /** "Throws IllegalArgumentException when there is none." */
    private static void noSuchDisk(Due due) {
        CellRack rack = new CellRack();
        rack.fail(0);
        rack.fail(15);
        for (int disk : Due.NO_DISKS) {
            due.refused("replace(" + disk + ")", IllegalArgumentException.class, () -> rack.replace(disk));
        }
        due.is("look(3)", 14, () -> rack.look(3));
        due.is("replace(0)", true, () -> rack.replace(0));
        due.is("replace(15)", true, () -> rack.replace(15));
    }
}
