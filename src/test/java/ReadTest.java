import java.util.NoSuchElementException;

/** Promise 4. */
public final class ReadTest {
    private static final long DATA = 0x0807060504030201L;

    public static void main(String[] args) {
        Due due = new Due();
        aValidCellIsTheOut(due);
        allSixtyFourBytesAreTheOut(due);
        aBlankCellEmptiesTheOut(due);
        aBrokenCellEmptiesTheOut(due);
        aCellOfNoLiveDiskEmptiesTheOut(due);
        theOutIsOfTheTimeOfReading(due);
        powerDoesNotMatter(due);
        noSuchCell(due);
        due.end();
    }

    private static CellRack written() {
        CellRack rack = new CellRack();
        rack.feed(8, DATA);
        rack.write(1, 2, 3);
        return rack;
    }

    /** The OUT is full first, so that it is seen whether it is emptied. */
    private static void emptied(Due due, CellRack rack, int disk, int cell) {
        due.is("outs(63) before", 0, () -> rack.outs(63));
        due.is("read(" + disk + ", " + cell + ")", false, () -> rack.read(disk, cell));
        due.refused("outs(0) of an empty OUT", NoSuchElementException.class, () -> rack.outs(0));
        due.refused("outs(63) of an empty OUT", NoSuchElementException.class, () -> rack.outs(63));
        due.is("read once more", false, () -> rack.read(disk, cell));
    }

    /** "Whether a cell is valid; its data are the OUT then .." */
    private static void aValidCellIsTheOut(Due due) {
        CellRack rack = written();
        due.is("read(1, 2)", true, () -> rack.read(1, 2));
        due.is("outs(0)", DATA, () -> rack.outs(0));
        rack.feed(8, ~DATA);
        rack.write(15, 65, 0);
        due.is("read(15, 65)", true, () -> rack.read(15, 65));
        due.is("outs(0)", ~DATA, () -> rack.outs(0));
        due.is("read(1, 2)", true, () -> rack.read(1, 2));
        due.is("outs(0)", DATA, () -> rack.outs(0));
        due.is("feed(1, 1): the tape is not touched", 1, () -> rack.feed(1, 1));
    }

    /** ".. its data are the OUT then .." */
    private static void allSixtyFourBytesAreTheOut(Due due) {
        CellRack rack = new CellRack();
        for (int i = 1; i <= 8; i++) {
            rack.feed(8, DATA * i);
        }
        rack.write(9, 9, 65535);
        rack.read(9, 9);
        for (int i = 1; i <= 8; i++) {
            int n = i;
            due.is("outs(" + 8 * (n - 1) + ")", DATA * n, () -> rack.outs(8 * (n - 1)));
        }
        due.refused("outs(64): the tag is no data", NoSuchElementException.class, () -> rack.outs(64));
    }

    /** ".. or else this is empty." */
    private static void aBlankCellEmptiesTheOut(Due due) {
        CellRack rack = written();
        rack.read(1, 2);
        emptied(due, rack, 1, 3);
        rack.read(1, 2);
        emptied(due, rack, 15, 65);
    }

    /** ".. or else this is empty." */
    private static void aBrokenCellEmptiesTheOut(Due due) {
        int[] places = {0, 63, 64, 65, 66, 69};
        for (int place : places) {
            CellRack rack = written();
            rack.read(1, 2);
            rack.corrupt(1, 2, place, 128, 1);
            emptied(due, rack, 1, 2);
            rack.corrupt(1, 2, place, 128, 1);
            due.is("read of a cell that is valid again", true, () -> rack.read(1, 2));
            due.is("outs(0)", DATA, () -> rack.outs(0));
        }
    }

    /** ".. or else this is empty." */
    private static void aCellOfNoLiveDiskEmptiesTheOut(Due due) {
        CellRack rack = written();
        rack.write(0, 0, 0);
        rack.read(1, 2);
        rack.fail(1);
        emptied(due, rack, 1, 2);
        rack.replace(1);
        rack.read(0, 0);
        emptied(due, rack, 1, 2);
    }

    private static void theOutIsOfTheTimeOfReading(Due due) {
        CellRack rack = written();
        rack.read(1, 2);
        rack.feed(1, 99);
        rack.write(1, 2, 4);
        due.is("outs(0) behind a write", DATA, () -> rack.outs(0));
        rack.corrupt(1, 2, 0, 1, 1);
        due.is("outs(0) behind corrupt", DATA, () -> rack.outs(0));
        rack.fail(1);
        due.is("outs(0) behind fail", DATA, () -> rack.outs(0));
    }

    private static void powerDoesNotMatter(Due due) {
        CellRack rack = written();
        Due.turnOff(rack);
        due.is("read with the power off", true, () -> rack.read(1, 2));
        due.is("outs(0)", DATA, () -> rack.outs(0));
        due.is("look(1)", 1, () -> rack.look(1));
    }

    /** "Throws IllegalArgumentException when there is no such cell." */
    private static void noSuchCell(Due due) {
        CellRack rack = written();
        rack.read(1, 2);
        for (int[] at : Due.NO_CELLS) {
            due.refused("read(" + at[0] + ", " + at[1] + ")", IllegalArgumentException.class,
                () -> rack.read(at[0], at[1]));
        }
        due.is("the OUT is as it was", DATA, () -> rack.outs(0));
        for (int[] at : Due.CORNERS) {
            due.is("read(" + at[0] + ", " + at[1] + ")", false, () -> rack.read(at[0], at[1]));
        }
    }
}
