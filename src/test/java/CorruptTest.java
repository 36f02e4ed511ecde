import java.util.Arrays;

/** Promise 11. */
public final class CorruptTest {
    public static void main(String[] args) {
        Due due = new Due();
        bytesTurnLowestFirst(due);
        theSameMaskTwiceMendsTheCell(due);
        aForgeryAtOnceIsRefused(due);
        aForgeryInStepsIsRefused(due);
        theLatestBytesCountAndNoOlderOnes(due);
        bitsAboveTheBytesDoNotCount(due);
        falseWhenItsDiskIsNotLive(due);
        falseWhenItIsBlank(due);
        noSuchCell(due);
        noSuchCount(due);
        noSuchPlace(due);
        due.end();
    }

    private static CellRack written() {
        CellRack rack = new CellRack();
        rack.feed(8, 0x1122334455667788L);
        rack.feed(8, 0x99AABBCCDDEEFF00L);
        rack.write(9, 8, 0x0102);
        return rack;
    }

    /** "The n bytes of a cell from a place on become themselves ^ those of mask, lowest first: true." */
    private static void bytesTurnLowestFirst(Due due) {
        for (int count = 1; count <= 8; count++) {
            for (int p = 0; p <= 70 - count; p++) {
                int n = count;
                int place = p;
                CellRack rack = written();
                byte[] before = Due.bytesOf(rack, 9, 8);
                long mask = 0xF8E7D6C5B4A39281L;
                due.is("corrupt at " + place + ", " + n + " bytes", true, () -> rack.corrupt(9, 8, place, mask, n));
                byte[] after = Due.bytesOf(rack, 9, 8);
                for (int k = 0; k < 70; k++) {
                    int turn = k < place || k >= place + n ? 0 : (int) (mask >>> (8 * (k - place))) & 255;
                    int want = (before[k] ^ turn) & 255;
                    int got = after[k] & 255;
                    due.is("byte " + k + " behind corrupt at " + place + ", " + n, want, () -> got);
                }
                due.is("cell behind corrupt at " + place + ", " + n, 3, () -> rack.cell(9, 8));
            }
        }
    }

    /** Valid then with those bytes "that were written into it latest" is no refusal: true. */
    private static void theSameMaskTwiceMendsTheCell(Due due) {
        CellRack rack = written();
        due.is("mask 0", true, () -> rack.corrupt(9, 8, 62, 0, 8));
        due.is("cell behind mask 0", 2, () -> rack.cell(9, 8));
        due.is("only bits above the n bytes", true, () -> rack.corrupt(9, 8, 62, 0xFF00L, 1));
        due.is("cell behind these", 2, () -> rack.cell(9, 8));
        due.is("corrupt of the check", true, () -> rack.corrupt(9, 8, 66, -1L, 4));
        due.is("mask 0 on a broken cell", true, () -> rack.corrupt(9, 8, 0, 0, 1));
        due.is("cell", 3, () -> rack.cell(9, 8));
        due.is("look(5)", 1, () -> rack.look(5));
        due.is("corrupt of the data, too", true, () -> rack.corrupt(9, 8, 3, 1, 1));
        due.is("the check back", true, () -> rack.corrupt(9, 8, 66, -1L, 4));
        due.is("cell", 3, () -> rack.cell(9, 8));
        due.is("the data back", true, () -> rack.corrupt(9, 8, 3, 1, 1));
        due.is("cell", 2, () -> rack.cell(9, 8));
        due.is("tag", 0x0102, () -> rack.tag(9, 8));
        due.is("look(4)", 1, () -> rack.look(4));
        due.is("look(5)", 0, () -> rack.look(5));
    }

    /** "False, and nothing changes .. if it would be valid then with other bytes than those .. written .. latest." */
    private static void aForgeryAtOnceIsRefused(Due due) {
        for (int k = 62; k < 66; k++) {
            int place = k;
            int n = 70 - place;
            CellRack rack = written();
            byte[] before = Due.bytesOf(rack, 9, 8);
            long mask = 0x40L | Due.checkTurn(rack, 9, 8, place, 0x40) << (8 * (66 - place));
            due.is("forgery from " + place, false, () -> rack.corrupt(9, 8, place, mask, n));
            due.is("nothing changed", true, () -> Arrays.equals(before, Due.bytesOf(rack, 9, 8)));
            due.is("cell", 2, () -> rack.cell(9, 8));
            due.is("one bit less is none", true, () -> rack.corrupt(9, 8, place, mask ^ 0x40L, n));
            due.is("cell", 3, () -> rack.cell(9, 8));
        }
    }

    /** "False, and nothing changes .. if it would be valid then with other bytes than those .. written .. latest." */
    private static void aForgeryInStepsIsRefused(Due due) {
        CellRack rack = written();
        long turn = Due.checkTurn(rack, 9, 8, 0, 1);
        due.is("corrupt of byte 0", true, () -> rack.corrupt(9, 8, 0, 1, 1));
        due.is("the check that would be right then", false, () -> rack.corrupt(9, 8, 66, turn, 4));
        due.is("cell", 3, () -> rack.cell(9, 8));
        due.is("look(4)", 0, () -> rack.look(4));
        due.is("look(5)", 1, () -> rack.look(5));
        due.is("read", false, () -> rack.read(9, 8));
        due.is("byte 0 back", true, () -> rack.corrupt(9, 8, 0, 1, 1));
        due.is("cell", 2, () -> rack.cell(9, 8));
        due.is("corrupt of the check first", true, () -> rack.corrupt(9, 8, 66, turn, 4));
        due.is("the byte that would be right then", false, () -> rack.corrupt(9, 8, 0, 1, 1));
        due.is("the check back", true, () -> rack.corrupt(9, 8, 66, turn, 4));
        due.is("cell", 2, () -> rack.cell(9, 8));
    }

    /** ".. with other bytes than those that were written into it latest": those of an older write are others. */
    private static void theLatestBytesCountAndNoOlderOnes(Due due) {
        CellRack rack = new CellRack();
        rack.write(0, 0, 2);
        rack.write(0, 0, 1);
        long mask = 3L | Due.checkTurn(rack, 0, 0, 64, 3) << 16;
        due.is("back to the older bytes", false, () -> rack.corrupt(0, 0, 64, mask, 6));
        rack.lose(1);
        rack.write(0, 0, 2);
        due.is("to those of a lost write", false, () -> rack.corrupt(0, 0, 64, mask, 6));
        due.is("corrupt with the power off", true, () -> rack.corrupt(0, 0, 0, 1, 1));
        rack.power();
        rack.write(0, 0, 2);
        due.is("cell", 2, () -> rack.cell(0, 0));
        due.is("and the other way", false, () -> rack.corrupt(0, 0, 64, mask, 6));
        rack.fail(0);
        rack.replace(0);
        rack.write(0, 0, 1);
        due.is("to the bytes of the disk before", false, () -> rack.corrupt(0, 0, 64, mask, 6));
        due.is("tag", 1, () -> rack.tag(0, 0));
    }

    /** "The n bytes .. become themselves ^ those of mask" */
    private static void bitsAboveTheBytesDoNotCount(Due due) {
        for (int count = 1; count < 8; count++) {
            int n = count;
            CellRack rack = written();
            due.is("only bits above " + n + " bytes", true, () -> rack.corrupt(9, 8, 10, -1L << (8 * n), n));
            due.is("cell", 2, () -> rack.cell(9, 8));
            due.is("the highest of them", true, () -> rack.corrupt(9, 8, 10, 1L << (8 * n - 1), n));
            due.is("cell", 3, () -> rack.cell(9, 8));
        }
        CellRack rack = written();
        int before = rack.at(9, 8, 17);
        due.is("the highest bit of all", true, () -> rack.corrupt(9, 8, 10, Long.MIN_VALUE, 8));
        due.is("at(9, 8, 17)", before ^ 128, () -> rack.at(9, 8, 17));
    }

    /** "False, and nothing changes, when its disk is not live .." */
    private static void falseWhenItsDiskIsNotLive(Due due) {
        CellRack rack = written();
        rack.fail(9);
        due.is("corrupt of no live disk's cell", false, () -> rack.corrupt(9, 8, 0, 1, 1));
        due.is("mask 0 on it", false, () -> rack.corrupt(9, 8, 0, 0, 1));
        due.is("corrupt of its blank cell", false, () -> rack.corrupt(9, 0, 62, -1L, 8));
        due.is("it is not live", 0, () -> rack.cell(9, 8));
        due.is("look(5)", 0, () -> rack.look(5));
        due.refused("wrong n on it", IllegalArgumentException.class, () -> rack.corrupt(9, 8, 0, 1, 0));
        due.refused("wrong place on it", IllegalArgumentException.class, () -> rack.corrupt(9, 8, 70, 1, 1));
        rack.replace(9);
        due.is("corrupt of a new disk's cell", false, () -> rack.corrupt(9, 8, 0, 1, 1));
    }

    /** "False, and nothing changes, when .. it is blank .." */
    private static void falseWhenItIsBlank(Due due) {
        CellRack rack = written();
        due.is("corrupt of a blank cell", false, () -> rack.corrupt(9, 9, 0, 1, 1));
        due.is("mask 0 on it", false, () -> rack.corrupt(9, 9, 0, 0, 1));
        due.is("it is blank", 1, () -> rack.cell(9, 9));
        due.is("look(5)", 0, () -> rack.look(5));
        due.refused("wrong n on it", IllegalArgumentException.class, () -> rack.corrupt(9, 9, 0, 1, 9));
        due.refused("wrong place on it", IllegalArgumentException.class, () -> rack.corrupt(9, 9, -1, 1, 1));
        rack.write(9, 9, 0);
        due.is("at(9, 9, 0) once it is written", 0, () -> rack.at(9, 9, 0));
        due.is("cell(9, 9) once it is written", 2, () -> rack.cell(9, 9));
    }

    /** "Throws IllegalArgumentException when there is no such cell .." */
    private static void noSuchCell(Due due) {
        CellRack rack = written();
        for (int[] at : Due.NO_CELLS) {
            due.refused("corrupt(" + at[0] + ", " + at[1] + ", 0, 1, 1)", IllegalArgumentException.class,
                () -> rack.corrupt(at[0], at[1], 0, 1, 1));
        }
        due.is("look(5)", 0, () -> rack.look(5));
        for (int[] at : Due.CORNERS) {
            rack.write(at[0], at[1], 1);
            due.is("corrupt(" + at[0] + ", " + at[1] + ", 0, 1, 1)", true,
                () -> rack.corrupt(at[0], at[1], 0, 1, 1));
        }
        due.is("look(5)", 4, () -> rack.look(5));
    }

    /** "Throws IllegalArgumentException when .. n is not 1 .. 8 .." */
    private static void noSuchCount(Due due) {
        CellRack rack = written();
        byte[] before = Due.bytesOf(rack, 9, 8);
        int[] wrong = {0, -1, -8, 9, 70, 71, Integer.MIN_VALUE, Integer.MIN_VALUE + 1, Integer.MAX_VALUE};
        int[] places = {0, 61, 62, 69, 70};
        for (int n : wrong) {
            for (int place : places) {
                due.refused("corrupt(9, 8, " + place + ", 1, " + n + ")", IllegalArgumentException.class,
                    () -> rack.corrupt(9, 8, place, 1, n));
            }
        }
        due.is("nothing changed", true, () -> Arrays.equals(before, Due.bytesOf(rack, 9, 8)));
    }

    /** "Throws IllegalArgumentException when .. place not 0 .. 70 - n." */
    private static void noSuchPlace(Due due) {
        for (int count = 1; count <= 8; count++) {
            int n = count;
            CellRack rack = written();
            byte[] before = Due.bytesOf(rack, 9, 8);
            int[] wrong = {-1, -n, 70 - n + 1, 70, 71, Integer.MIN_VALUE, Integer.MAX_VALUE, Integer.MAX_VALUE - n + 1};
            for (int place : wrong) {
                due.refused("corrupt(9, 8, " + place + ", 1, " + n + ")", IllegalArgumentException.class,
                    () -> rack.corrupt(9, 8, place, 1, n));
            }
            due.is("nothing changed", true, () -> Arrays.equals(before, Due.bytesOf(rack, 9, 8)));
            due.is("the first place", true, () -> rack.corrupt(9, 8, 0, 1, n));
            due.is("the last place", true, () -> rack.corrupt(9, 8, 70 - n, 1L << (8 * n - 8), n));
            due.is("byte 69", (before[69] ^ 1) & 255, () -> rack.at(9, 8, 69));
        }
    }
}
