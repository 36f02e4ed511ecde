import java.util.NoSuchElementException;

/** Promise 8. */
public final class AtTest {
    public static void main(String[] args) {
        Due due = new Due();
        everyByteOfACell(due);
        aByteAsItIs(due);
        noSuchCell(due);
        noByteWhenTheDiskIsNotLive(due);
        noByteWhenItIsBlank(due);
        noSuchByte(due);
        due.end();
    }

    private static CellRack written() {
        CellRack rack = new CellRack();
        for (int i = 0; i < 64; i++) {
            rack.feed(1, 200 + i);
        }
        rack.write(6, 7, 0xFE81);
        return rack;
    }

    /** "Byte k of a cell as it is." */
    private static void everyByteOfACell(Due due) {
        CellRack rack = written();
        for (int i = 0; i < 64; i++) {
            int k = i;
            due.is("byte " + k, (200 + k) & 255, () -> rack.at(6, 7, k));
        }
        due.is("byte 64", 0x81, () -> rack.at(6, 7, 64));
        due.is("byte 65", 0xFE, () -> rack.at(6, 7, 65));
        long check = Due.check(Due.bytesOf(rack, 6, 7), 66);
        due.is("byte 66", check & 255, () -> rack.at(6, 7, 66));
        due.is("byte 69", check >>> 24, () -> rack.at(6, 7, 69));
    }

    /** "Byte k of a cell as it is." */
    private static void aByteAsItIs(Due due) {
        int[] places = {0, 7, 8, 63, 64, 65, 66, 69};
        for (int k : places) {
            CellRack rack = written();
            int before = rack.at(6, 7, k);
            rack.corrupt(6, 7, k, 255, 1);
            due.is("byte " + k + " of a broken cell", before ^ 255, () -> rack.at(6, 7, k));
            Due.turnOff(rack);
            due.is("byte " + k + " with the power off", before ^ 255, () -> rack.at(6, 7, k));
        }
    }

    /** "Throws IllegalArgumentException when there is no such cell" */
    private static void noSuchCell(Due due) {
        CellRack rack = written();
        int[] bytes = {0, 70, -1};
        for (int[] at : Due.NO_CELLS) {
            for (int k : bytes) {
                due.refused("at(" + at[0] + ", " + at[1] + ", " + k + ")", IllegalArgumentException.class,
                    () -> rack.at(at[0], at[1], k));
            }
        }
        for (int[] at : Due.CORNERS) {
            rack.write(at[0], at[1], 5);
            due.is("at(" + at[0] + ", " + at[1] + ", 64)", 5, () -> rack.at(at[0], at[1], 64));
        }
    }

    /** "NoSuchElementException when its disk is not live .." */
    private static void noByteWhenTheDiskIsNotLive(Due due) {
        CellRack rack = written();
        rack.fail(6);
        int[] bytes = {0, 69, 70, -1};
        for (int k : bytes) {
            due.refused("at(6, 7, " + k + "), not live", NoSuchElementException.class, () -> rack.at(6, 7, k));
        }
        rack.replace(6);
        due.refused("at(6, 7, 0) of a new disk", NoSuchElementException.class, () -> rack.at(6, 7, 0));
    }

    /** "NoSuchElementException when .. it is blank .." */
    private static void noByteWhenItIsBlank(Due due) {
        CellRack rack = written();
        int[] bytes = {0, 69, 70, -1};
        for (int k : bytes) {
            due.refused("at(6, 8, " + k + "), blank", NoSuchElementException.class, () -> rack.at(6, 8, k));
        }
    }

    /** "NoSuchElementException when .. it .. has no such byte." */
    private static void noSuchByte(Due due) {
        CellRack rack = written();
        // 70 and 71 would be bytes of a cell of nine words, 72 one of the cell behind.
        int[] wrong = {-1, -70, 70, 71, 72, 79, 80, 256, Integer.MIN_VALUE, Integer.MAX_VALUE};
        for (int k : wrong) {
            due.refused("at(6, 7, " + k + ")", NoSuchElementException.class, () -> rack.at(6, 7, k));
        }
        rack.corrupt(6, 7, 0, 1, 1);
        for (int k : wrong) {
            due.refused("at(6, 7, " + k + "), broken", NoSuchElementException.class, () -> rack.at(6, 7, k));
        }
    }
}
