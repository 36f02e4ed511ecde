import java.util.Arrays;

/** Promise 3. */
public final class WriteTest {
    private static final int[] TAGS = {0, 1, 65534, 65535};
    private static final int[] NO_TAGS = {-1, 65536, 65537, -65536, 131071, Integer.MIN_VALUE, Integer.MAX_VALUE};

    public static void main(String[] args) {
        Due due = new Due();
        aCellIsValidThen(due);
        itsCheckMakesItValid(due);
        everyCellIsOneOfItsOwn(due);
        aWriteUsesUpTheTape(due);
        aWriteTakesTheOldBytesAway(due);
        falseWhenThePowerIsOff(due);
        falseWhenThePowerIsLostAtThisWrite(due);
        aWriteThatIsNotDoneUsesUpTheTapeToo(due);
        noSuchCell(due);
        noSuchTag(due);
        theDiskIsNotLive(due);
        aRefusedWriteLeavesTheTapeAndThePower(due);
        due.end();
    }

    /** "The tape, which is used up, is written into a cell with a tag (and the check that makes it valid): true." */
    private static void aCellIsValidThen(Due due) {
        CellRack rack = new CellRack();
        rack.feed(2, 0xBEEFL);
        due.is("write(2, 3, 513)", true, () -> rack.write(2, 3, 513));
        due.is("cell(2, 3)", 2, () -> rack.cell(2, 3));
        due.is("tag(2, 3)", 513, () -> rack.tag(2, 3));
        due.is("read(2, 3)", true, () -> rack.read(2, 3));
        due.is("outs(0)", 0xBEEFL, () -> rack.outs(0));
        due.is("look(0)", 1, () -> rack.look(0));
    }

    /** ".. (and the check that makes it valid) .." */
    private static void itsCheckMakesItValid(Due due) {
        CellRack rack = new CellRack();
        for (int i = 0; i < 8; i++) {
            rack.feed(8, 0x8F7E6D5C4B3A2918L * (2 * i + 1));
        }
        rack.write(7, 0, 0xA1B2);
        due.is("byte 64", 0xB2, () -> rack.at(7, 0, 64));
        due.is("byte 65", 0xA1, () -> rack.at(7, 0, 65));
        long check = Due.check(Due.bytesOf(rack, 7, 0), 66);
        for (int i = 0; i < 4; i++) {
            int k = i;
            due.is("byte " + (66 + k), check >>> (8 * k) & 255, () -> rack.at(7, 0, 66 + k));
        }
    }

    private static void everyCellIsOneOfItsOwn(Due due) {
        for (int part = 0; part < 9; part++) {
            CellRack rack = new CellRack();
            for (int i = part; i < 1056; i += 9) {
                rack.feed(2, i);
                rack.write(i / 66, i % 66, 65535 - i);
            }
            for (int i = part; i < 1056; i += 9) {
                int n = i;
                due.is("tag of cell " + n, 65535 - n, () -> rack.tag(n / 66, n % 66));
                due.is("byte 0 of cell " + n, n & 255, () -> rack.at(n / 66, n % 66, 0));
            }
        }
    }

    /** "The tape, which is used up .." */
    private static void aWriteUsesUpTheTape(Due due) {
        CellRack rack = new CellRack();
        rack.feed(8, -1L);
        rack.write(0, 0, 1);
        due.is("write of an empty tape", true, () -> rack.write(0, 1, 1));
        rack.read(0, 1);
        due.is("outs(0) of it", 0, () -> rack.outs(0));
        due.is("feed(1, 5)", 1, () -> rack.feed(1, 5));
    }

    private static void aWriteTakesTheOldBytesAway(Due due) {
        CellRack rack = new CellRack();
        for (int i = 0; i < 8; i++) {
            rack.feed(8, -1L);
        }
        rack.write(4, 4, 65535);
        rack.corrupt(4, 4, 10, 255, 1);
        rack.feed(1, 6);
        due.is("write over a broken cell", true, () -> rack.write(4, 4, 0));
        due.is("cell(4, 4)", 2, () -> rack.cell(4, 4));
        due.is("tag(4, 4)", 0, () -> rack.tag(4, 4));
        rack.read(4, 4);
        due.is("outs(0)", 6, () -> rack.outs(0));
        due.is("outs(56)", 0, () -> rack.outs(56));
        due.is("look(4)", 1, () -> rack.look(4));
        due.is("look(5)", 0, () -> rack.look(5));
        due.is("look(0)", 2, () -> rack.look(0));
    }

    /** "False, and nothing is written, when the power is off .." */
    private static void falseWhenThePowerIsOff(Due due) {
        CellRack rack = threeKinds();
        Due.turnOff(rack);
        nothingIsWritten(due, rack);
    }

    /** "False, and nothing is written, when the power .. is lost at this write." */
    private static void falseWhenThePowerIsLostAtThisWrite(Due due) {
        CellRack rack = threeKinds();
        rack.lose(1);
        nothingIsWritten(due, rack);
        for (int i = 0; i < 3; i++) {
            int cell = i;
            CellRack other = threeKinds();
            other.lose(1);
            other.feed(1, 9);
            int before = other.cell(6, cell);
            due.is("write(6, " + cell + ", 9)", false, () -> other.write(6, cell, 9));
            due.is("cell(6, " + cell + ")", before, () -> other.cell(6, cell));
            due.is("look(1)", 1, () -> other.look(1));
        }
    }

    /** On disk 6 a valid cell 0, a broken cell 1 and a blank cell 2. */
    private static CellRack threeKinds() {
        CellRack rack = new CellRack();
        rack.feed(8, 0x1112131415161718L);
        rack.write(6, 0, 1);
        rack.feed(8, 0x2122232425262728L);
        rack.write(6, 1, 2);
        rack.corrupt(6, 1, 64, 0x8001, 2);
        return rack;
    }

    private static void nothingIsWritten(Due due, CellRack rack) {
        byte[] valid = Due.bytesOf(rack, 6, 0);
        byte[] broken = Due.bytesOf(rack, 6, 1);
        for (int i = 0; i < 3; i++) {
            int cell = i;
            rack.feed(8, -1L);
            due.is("write(6, " + cell + ", 9)", false, () -> rack.write(6, cell, 9));
        }
        due.is("the valid cell's bytes are as they were", true, () -> Arrays.equals(valid, Due.bytesOf(rack, 6, 0)));
        due.is("the broken cell's, too", true, () -> Arrays.equals(broken, Due.bytesOf(rack, 6, 1)));
        due.is("cell(6, 0)", 2, () -> rack.cell(6, 0));
        due.is("cell(6, 1)", 3, () -> rack.cell(6, 1));
        due.is("cell(6, 2)", 1, () -> rack.cell(6, 2));
        due.is("look(0)", 2, () -> rack.look(0));
        due.is("look(1)", 1, () -> rack.look(1));
        due.is("look(4)", 1, () -> rack.look(4));
        due.is("look(5)", 1, () -> rack.look(5));
        rack.corrupt(6, 1, 64, 0x8001, 2);
        due.is("what was written latest is valid again", 2, () -> rack.tag(6, 1));
    }

    private static void aWriteThatIsNotDoneUsesUpTheTapeToo(Due due) {
        CellRack rack = new CellRack();
        rack.lose(1);
        rack.feed(1, 22);
        due.is("write at which the power is lost", false, () -> rack.write(0, 0, 2));
        due.is("feed behind it", 1, () -> rack.feed(1, 33));
        due.is("write with the power off", false, () -> rack.write(0, 0, 3));
        rack.power();
        due.is("write with the power on", true, () -> rack.write(0, 0, 4));
        due.is("at(0, 0, 0)", 0, () -> rack.at(0, 0, 0));
    }

    /** "Throws IllegalArgumentException when there is no such cell .." */
    private static void noSuchCell(Due due) {
        CellRack rack = new CellRack();
        for (int[] at : Due.NO_CELLS) {
            due.refused("write(" + at[0] + ", " + at[1] + ", 0)", IllegalArgumentException.class,
                () -> rack.write(at[0], at[1], 0));
        }
        due.is("look(0)", 0, () -> rack.look(0));
        due.is("look(4)", 0, () -> rack.look(4));
        for (int[] at : Due.CORNERS) {
            due.is("write(" + at[0] + ", " + at[1] + ", 0)", true, () -> rack.write(at[0], at[1], 0));
        }
        due.is("look(4)", 4, () -> rack.look(4));
    }

    /** "Throws IllegalArgumentException when there is no such .. tag" */
    private static void noSuchTag(Due due) {
        CellRack rack = new CellRack();
        for (int tag : TAGS) {
            due.is("write(1, 1, " + tag + ")", true, () -> rack.write(1, 1, tag));
            for (int none : NO_TAGS) {
                due.refused("write(1, 1, " + none + ")", IllegalArgumentException.class, () -> rack.write(1, 1, none));
            }
            due.is("tag(1, 1)", tag, () -> rack.tag(1, 1));
        }
        due.is("look(0)", TAGS.length, () -> rack.look(0));
    }

    /** "IllegalStateException when the disk is not live." */
    private static void theDiskIsNotLive(Due due) {
        int[] disks = {0, 7, 15};
        for (int disk : disks) {
            CellRack rack = new CellRack();
            rack.write(disk, 0, 1);
            rack.fail(disk);
            due.refused("write(" + disk + ", 0, 0)", IllegalStateException.class, () -> rack.write(disk, 0, 0));
            due.refused("write(" + disk + ", 65, 65535)", IllegalStateException.class,
                () -> rack.write(disk, 65, 65535));
            due.is("a write to another disk", true, () -> rack.write((disk + 1) % 16, 0, 0));
            due.is("look(0)", 2, () -> rack.look(0));
            Due.turnOff(rack);
            due.refused("write(" + disk + ", 0, 0), power off", IllegalStateException.class,
                () -> rack.write(disk, 0, 0));
            rack.power();
            rack.replace(disk);
            due.is("write(" + disk + ", 0, 0), replaced", true, () -> rack.write(disk, 0, 0));
        }
    }

    /** "a call that throws changes nothing" */
    private static void aRefusedWriteLeavesTheTapeAndThePower(Due due) {
        CellRack rack = new CellRack();
        rack.feed(1, 77);
        rack.lose(1);
        rack.fail(5);
        due.refused("write(5, 0, 0)", IllegalStateException.class, () -> rack.write(5, 0, 0));
        due.refused("write(0, 66, 0)", IllegalArgumentException.class, () -> rack.write(0, 66, 0));
        due.refused("write(0, 0, 65536)", IllegalArgumentException.class, () -> rack.write(0, 0, 65536));
        due.is("look(1)", 0, () -> rack.look(1));
        due.is("look(2)", 0, () -> rack.look(2));
        due.is("the tape is as it was", 2, () -> rack.feed(1, 88));
        due.is("power()", false, rack::power);
        due.is("write(0, 0, 0)", true, () -> rack.write(0, 0, 0));
        due.is("at(0, 0, 0)", 77, () -> rack.at(0, 0, 0));
        due.is("at(0, 0, 1)", 88, () -> rack.at(0, 0, 1));
        due.is("at(0, 0, 2)", 0, () -> rack.at(0, 0, 2));
    }
}
