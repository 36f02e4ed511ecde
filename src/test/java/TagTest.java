/** Promise 6. */
public final class TagTest {
    public static void main(String[] args) {
        Due due = new Due();
        theTagOfAValidCell(due);
        noTagOfABlankCell(due);
        noTagOfABrokenCell(due);
        noTagOfACellOfNoLiveDisk(due);
        noSuchCell(due);
        due.end();
    }

    /** "The tag of a valid cell" */
    private static void theTagOfAValidCell(Due due) {
        CellRack rack = new CellRack();
        int[] tags = {0, 1, 255, 256, 32767, 32768, 65534, 65535};
        for (int tag : tags) {
            rack.feed(8, -1L);
            rack.write(15, 65, tag);
            due.is("tag written as " + tag, tag, () -> rack.tag(15, 65));
        }
        Due.turnOff(rack);
        due.is("tag with the power off", 65535, () -> rack.tag(15, 65));
    }

    /** "-1 for another one." */
    private static void noTagOfABlankCell(Due due) {
        CellRack rack = new CellRack();
        rack.write(0, 1, 9);
        due.is("tag of a blank cell", -1, () -> rack.tag(0, 0));
        due.is("tag of a blank cell", -1, () -> rack.tag(15, 65));
    }

    /** "-1 for another one." */
    private static void noTagOfABrokenCell(Due due) {
        int[] places = {0, 63, 64, 65, 66, 69};
        for (int place : places) {
            CellRack rack = new CellRack();
            rack.write(3, 4, 65535);
            rack.corrupt(3, 4, place, 1, 1);
            due.is("tag of a cell broken at " + place, -1, () -> rack.tag(3, 4));
            rack.corrupt(3, 4, place, 1, 1);
            due.is("tag of a cell that is valid again", 65535, () -> rack.tag(3, 4));
        }
    }

    /** "-1 for another one." */
    private static void noTagOfACellOfNoLiveDisk(Due due) {
        CellRack rack = new CellRack();
        rack.write(15, 65, 7);
        rack.fail(15);
        due.is("tag of no live disk's cell", -1, () -> rack.tag(15, 65));
        due.is("tag of no live disk's blank cell", -1, () -> rack.tag(15, 0));
        rack.replace(15);
        due.is("tag of a new disk's cell", -1, () -> rack.tag(15, 65));
    }

    /** "Throws IllegalArgumentException when there is no such cell." */
    private static void noSuchCell(Due due) {
        CellRack rack = new CellRack();
        for (int[] at : Due.CORNERS) {
            rack.write(at[0], at[1], 5);
            due.is("tag(" + at[0] + ", " + at[1] + ")", 5, () -> rack.tag(at[0], at[1]));
        }
        for (int[] at : Due.NO_CELLS) {
            due.refused("tag(" + at[0] + ", " + at[1] + ")", IllegalArgumentException.class,
                () -> rack.tag(at[0], at[1]));
        }
    }
}
