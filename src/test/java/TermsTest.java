import java.util.NoSuchElementException;

/** The section 'Terms'; what it says of exceptions is in RefusedTest, and of memory in MemoryTest. */
public final class TermsTest {
    public static void main(String[] args) {
        Due due = new Due();
        disksAndCellsHaveTheirEnds(due);
        onDisksThatAreNotLiveToo(due);
        aCellIsBlankUntilItIsWritten(due);
        andOnceMoreWhenItsDiskIsANewOne(due);
        aWrittenCellHasSeventyBytes(due);
        theTagIsTwoBytesLowestFirst(due);
        theCheckIsTheOneThatIsTold(due);
        everyBitCountsForTheCheck(due);
        theTapeIsEmptyAtFirst(due);
        zerosComeBehindTheTape(due);
        zerosComeBehindAShorterTapeToo(due);
        powerIsOnAtFirst(due);
        due.end();
    }

    /** "DISKS 0 .. 15, live or not, have CELLS 0 .. 65 each." */
    private static void disksAndCellsHaveTheirEnds(Due due) {
        for (int[] at : Due.CORNERS) {
            int d = at[0];
            int c = at[1];
            String told = " of " + d + ", " + c;
            CellRack rack = new CellRack();
            due.is("cell" + told, 1, () -> rack.cell(d, c));
            due.is("write" + told, true, () -> rack.write(d, c, 12));
            due.is("cell" + told, 2, () -> rack.cell(d, c));
            due.is("tag" + told, 12, () -> rack.tag(d, c));
            due.is("read" + told, true, () -> rack.read(d, c));
            due.is("at" + told, 12, () -> rack.at(d, c, 64));
            due.is("corrupt" + told, true, () -> rack.corrupt(d, c, 0, 1, 1));
            due.is("replace of " + d, false, () -> rack.replace(d));
            due.is("fail of " + d, true, () -> rack.fail(d));
            due.is("replace of " + d, true, () -> rack.replace(d));
        }
    }

    /** "DISKS 0 .. 15, live or not, have CELLS 0 .. 65 each." */
    private static void onDisksThatAreNotLiveToo(Due due) {
        CellRack rack = new CellRack();
        rack.fail(0);
        rack.fail(15);
        for (int[] at : Due.CORNERS) {
            int d = at[0];
            int c = at[1];
            String told = " of " + d + ", " + c + ", not live";
            due.is("cell" + told, 0, () -> rack.cell(d, c));
            due.refused("write" + told, IllegalStateException.class, () -> rack.write(d, c, 12));
            due.is("tag" + told, -1, () -> rack.tag(d, c));
            due.is("read" + told, false, () -> rack.read(d, c));
            due.refused("at" + told, NoSuchElementException.class, () -> rack.at(d, c, 0));
            due.is("corrupt" + told, false, () -> rack.corrupt(d, c, 0, 1, 1));
        }
        int[][] none = {{0, -1}, {0, 66}, {15, -1}, {15, 66}};
        for (int[] at : none) {
            int d = at[0];
            int c = at[1];
            String told = " of " + d + ", " + c + ", not live";
            due.refused("cell" + told, IllegalArgumentException.class, () -> rack.cell(d, c));
            due.refused("write" + told, IllegalArgumentException.class, () -> rack.write(d, c, 12));
            due.refused("tag" + told, IllegalArgumentException.class, () -> rack.tag(d, c));
            due.refused("read" + told, IllegalArgumentException.class, () -> rack.read(d, c));
            due.refused("at" + told, IllegalArgumentException.class, () -> rack.at(d, c, 0));
            due.refused("corrupt" + told, IllegalArgumentException.class, () -> rack.corrupt(d, c, 0, 1, 1));
        }
    }

    /** "A cell is BLANK until it is written for the first time since its disk came." */
    private static void aCellIsBlankUntilItIsWritten(Due due) {
        CellRack rack = new CellRack();
        rack.feed(8, -1L);
        rack.read(4, 5);
        rack.corrupt(4, 5, 0, 1, 1);
        rack.write(4, 4, 1);
        rack.write(4, 6, 1);
        rack.write(3, 5, 1);
        rack.write(5, 5, 1);
        due.is("a cell beside written ones", 1, () -> rack.cell(4, 5));
        due.refused("a write with no such tag", IllegalArgumentException.class, () -> rack.write(4, 5, 65536));
        due.is("a cell behind it", 1, () -> rack.cell(4, 5));
        Due.turnOff(rack);
        due.is("a write with the power off", false, () -> rack.write(4, 5, 1));
        due.is("a cell behind it", 1, () -> rack.cell(4, 5));
        rack.power();
        rack.lose(1);
        due.is("a write at which the power is lost", false, () -> rack.write(4, 5, 1));
        due.is("a cell behind it", 1, () -> rack.cell(4, 5));
        rack.power();
        due.is("a write of an empty tape", true, () -> rack.write(4, 5, 0));
        due.is("a cell with 0s alone", 2, () -> rack.cell(4, 5));
    }

    /** "A cell is BLANK until it is written for the first time since its disk came." */
    private static void andOnceMoreWhenItsDiskIsANewOne(Due due) {
        CellRack rack = new CellRack();
        for (int i = 0; i < 3; i++) {
            int tag = i;
            due.is("a cell of a new disk", 1, () -> rack.cell(7, 7));
            due.refused("its bytes", NoSuchElementException.class, () -> rack.at(7, 7, 0));
            due.is("a write into it", true, () -> rack.write(7, 7, tag));
            due.is("the cell then", 2, () -> rack.cell(7, 7));
            due.is("its tag", tag, () -> rack.tag(7, 7));
            rack.fail(7);
            rack.replace(7);
        }
    }

    /** "Then it has 70 BYTES (0 .. 255): 64 of data, its TAG (0 .. 65535, two bytes, lowest first), its CHECK .." */
    private static void aWrittenCellHasSeventyBytes(Due due) {
        long[] fed = {0L, -1L, 0x807F807F807F807FL};
        for (long v : fed) {
            CellRack rack = new CellRack();
            for (int i = 0; i < 8; i++) {
                rack.feed(8, v);
            }
            rack.write(2, 2, (int) (v & 65535));
            for (int i = 0; i < 66; i++) {
                int k = i;
                due.is("byte " + k + " of " + v, v >>> (k % 8 * 8) & 255, () -> rack.at(2, 2, k));
            }
            for (int i = 66; i < 70; i++) {
                int k = i;
                due.is("byte " + k + " is 0 .. 255", true, () -> rack.at(2, 2, k) >= 0 && rack.at(2, 2, k) <= 255);
            }
            due.refused("byte 70", NoSuchElementException.class, () -> rack.at(2, 2, 70));
        }
    }

    /** ".. its TAG (0 .. 65535, two bytes, lowest first) .." */
    private static void theTagIsTwoBytesLowestFirst(Due due) {
        CellRack rack = new CellRack();
        int[] tags = {0, 1, 127, 128, 255, 256, 257, 32767, 32768, 65280, 65534, 65535};
        for (int tag : tags) {
            due.is("write with the tag " + tag, true, () -> rack.write(0, 0, tag));
            due.is("byte 64 of the tag " + tag, tag % 256, () -> rack.at(0, 0, 64));
            due.is("byte 65 of the tag " + tag, tag / 256, () -> rack.at(0, 0, 65));
            due.is("tag " + tag, tag, () -> rack.tag(0, 0));
        }
    }

    /** ".. its CHECK (four bytes, lowest first)" and "The CHECK of bytes is a word of 32 bits, all 1 at first. .." */
    private static void theCheckIsTheOneThatIsTold(Due due) {
        long[] zeros = {0, 0, 0, 0, 0, 0, 0, 0};
        long[] ones = {-1, -1, -1, -1, -1, -1, -1, -1};
        long[] nine = {0x3837363534333231L, 0x39L, 0, 0, 0, 0, 0, 0};
        // These were worked out apart, by the document's words, with no word of a size of its own.
        checkIs(due, zeros, 0, 1898552184L);
        checkIs(due, zeros, 5, 738288339L);
        checkIs(due, zeros, 65535, 2142760106L);
        checkIs(due, ones, 0, 4113665712L);
        checkIs(due, ones, 65535, 4222613858L);
        checkIs(due, nine, 1, 1741166472L);
    }

    private static void checkIs(Due due, long[] data, int tag, long want) {
        CellRack rack = new CellRack();
        for (long v : data) {
            rack.feed(8, v);
        }
        rack.write(15, 65, tag);
        for (int i = 0; i < 4; i++) {
            int k = i;
            due.is("byte " + k + " of the check " + want, want >>> (8 * k) & 255, () -> rack.at(15, 65, 66 + k));
        }
        due.is("cell with the check " + want, 2, () -> rack.cell(15, 65));
    }

    /** "It is VALID if that is the check of its first 66 bytes." */
    private static void everyBitCountsForTheCheck(Due due) {
        for (int byteOf70 = 0; byteOf70 < 70; byteOf70++) {
            int k = byteOf70;
            CellRack rack = new CellRack();
            rack.feed(8, 0x0123456789ABCDEFL);
            rack.write(1, 1, 0x1234);
            for (int i = 0; i < 8; i++) {
                long bit = 1L << i;
                rack.corrupt(1, 1, k, bit, 1);
                due.is("cell with bit " + bit + " of byte " + k + " turned", 3, () -> rack.cell(1, 1));
                rack.corrupt(1, 1, k, bit, 1);
                due.is("cell with bit " + bit + " of byte " + k + " turned back", 2, () -> rack.cell(1, 1));
            }
        }
    }

    /** "The TAPE has at most 64 bytes, none at first" */
    private static void theTapeIsEmptyAtFirst(Due due) {
        CellRack rack = new CellRack();
        due.is("write at first", true, () -> rack.write(0, 0, 0));
        rack.read(0, 0);
        for (int i = 0; i < 64; i++) {
            int k = i;
            due.is("outs(" + k + ")", 0, () -> rack.outs(k));
        }
        CellRack other = new CellRack();
        for (int i = 1; i <= 64; i++) {
            int n = i;
            due.is("feed number " + n, n, () -> other.feed(1, 1));
        }
        due.refused("feed number 65", IllegalStateException.class, () -> other.feed(1, 1));
    }

    /** "what is written is these with 0s behind them" */
    private static void zerosComeBehindTheTape(Due due) {
        for (int length = 0; length <= 64; length++) {
            int n = length;
            CellRack rack = new CellRack();
            for (int i = 0; i < n; i++) {
                rack.feed(1, 255 - i);
            }
            rack.write(3, 3, 65535);
            for (int i = 0; i < 64; i++) {
                int k = i;
                due.is("byte " + k + " of a tape of " + n, k < n ? 255 - k : 0, () -> rack.at(3, 3, k));
            }
        }
    }

    /** "what is written is these with 0s behind them" */
    private static void zerosComeBehindAShorterTapeToo(Due due) {
        CellRack rack = new CellRack();
        for (int i = 0; i < 8; i++) {
            rack.feed(8, -1L);
        }
        rack.write(3, 3, 65535);
        rack.feed(3, -1L);
        rack.write(3, 3, 0);
        for (int i = 0; i < 66; i++) {
            int k = i;
            due.is("byte " + k + " of a tape of 3", k < 3 ? 255 : 0, () -> rack.at(3, 3, k));
        }
    }

    /** "POWER is on at first." */
    private static void powerIsOnAtFirst(Due due) {
        CellRack rack = new CellRack();
        due.is("look(1)", 0, () -> rack.look(1));
        due.is("lose(1)", "said", () -> Due.lost(rack, 1));
        due.is("power()", false, rack::power);
        due.is("write", true, () -> rack.write(0, 0, 0));
    }
}
