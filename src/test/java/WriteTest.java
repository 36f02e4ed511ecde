/** Promise 3. */
public final class WriteTest {
    public static void main(String[] args) {
        Due due = new Due();
        aCellIsValidThen(due);
        tagAndCheckAreLowestFirst(due);
        everyCellIsOneOfItsOwn(due);
        aWriteUsesUpTheTape(due);
        aWriteTakesTheOldBytesAway(due);
        lostWritesUseUpTheTape(due);
        wrongInputs(due);
        due.end();
    }

    private static void aCellIsValidThen(Due due) {
        CellRack rack = new CellRack();
        rack.feed(2, 0xBEEFL);
        due.is("write(2, 3, 513)", true, () -> rack.write(2, 3, 513));
        due.is("cell(2, 3)", 2, () -> rack.cell(2, 3));
        due.is("tag(2, 3)", 513, () -> rack.tag(2, 3));
        due.is("read(2, 3)", true, () -> rack.read(2, 3));
        due.is("outs(0)", 0xBEEFL, () -> rack.outs(0));
        due.is("look(0)", 1, () -> rack.look(0));
    }

    private static void tagAndCheckAreLowestFirst(Due due) {
        CellRack rack = new CellRack();
        for (int i = 0; i < 8; i++) {
            rack.feed(8, 0x8F7E6D5C4B3A2918L * (2 * i + 1));
        }
        rack.write(7, 0, 0xA1B2);
        due.is("byte 64", 0xB2, () -> rack.at(7, 0, 64));
        due.is("byte 65", 0xA1, () -> rack.at(7, 0, 65));
        long check = Due.check(Due.bytesOf(rack, 7, 0), 66);
        for (int i = 0; i < 4; i++) {
            int k = i;
            due.is("byte " + (66 + k), check >>> (8 * k) & 255, () -> rack.at(7, 0, 66 + k));
        }
    }

    private static void everyCellIsOneOfItsOwn(Due due) {
        for (int part = 0; part < 9; part++) {
            CellRack rack = new CellRack();
            for (int i = part; i < 1056; i += 9) {
                rack.feed(2, i);
                rack.write(i / 66, i % 66, 65535 - i);
            }
            for (int i = part; i < 1056; i += 9) {
                int n = i;
                due.is("tag of cell " + n, 65535 - n, () -> rack.tag(n / 66, n % 66));
                due.is("byte 0 of cell " + n, n & 255, () -> rack.at(n / 66, n % 66, 0));
            }
        }
    }

    private static void aWriteUsesUpTheTape(Due due) {
        CellRack rack = new CellRack();
        rack.feed(8, -1L);
        rack.write(0, 0, 1);
        rack.write(0, 1, 1);
        rack.read(0, 1);
        due.is("outs(0) of a write with an empty tape", 0, () -> rack.outs(0));
        due.is("feed(1, 5)", 1, () -> rack.feed(1, 5));
    }

    private static void aWriteTakesTheOldBytesAway(Due due) {
        CellRack rack = new CellRack();
        for (int i = 0; i < 8; i++) {
            rack.feed(8, -1L);
        }
        rack.write(4, 4, 65535);
        rack.corrupt(4, 4, 10, 255, 1);
        rack.feed(1, 6);
        due.is("write over a broken cell", true, () -> rack.write(4, 4, 0));
        due.is("cell(4, 4)", 2, () -> rack.cell(4, 4));
        due.is("tag(4, 4)", 0, () -> rack.tag(4, 4));
        rack.read(4, 4);
        due.is("outs(0)", 6, () -> rack.outs(0));
        due.is("outs(56)", 0, () -> rack.outs(56));
        due.is("look(4)", 1, () -> rack.look(4));
        due.is("look(5)", 0, () -> rack.look(5));
        due.is("look(0)", 2, () -> rack.look(0));
    }

    private static void lostWritesUseUpTheTape(Due due) {
        CellRack rack = new CellRack();
        rack.feed(1, 11);
        rack.write(0, 0, 1);
        rack.lose(1);
        rack.feed(1, 22);
        due.is("write at which the power is lost", false, () -> rack.write(0, 0, 2));
        due.is("feed behind it", 1, () -> rack.feed(1, 33));
        due.is("write with the power off", false, () -> rack.write(0, 0, 3));
        due.is("feed behind it", 1, () -> rack.feed(1, 44));
        due.is("tag(0, 0)", 1, () -> rack.tag(0, 0));
        due.is("at(0, 0, 0)", 11, () -> rack.at(0, 0, 0));
        due.is("look(0)", 1, () -> rack.look(0));
        rack.fail(1);
        due.refused("write to no live disk, power off", IllegalStateException.class, () -> rack.write(1, 0, 3));
        due.refused("write with no tag, power off", IllegalArgumentException.class, () -> rack.write(0, 0, -1));
        due.is("these leave the tape", 2, () -> rack.feed(1, 55));
    }

    private static void wrongInputs(Due due) {
        CellRack rack = new CellRack();
        rack.feed(1, 77);
        rack.lose(1);
        rack.fail(5);
        int[][] wrong = {
            {-1, 0, 0}, {16, 0, 0}, {0, -1, 0}, {0, 66, 0}, {0, 0, -1}, {0, 0, 65536},
            {Integer.MIN_VALUE, 0, 0}, {Integer.MAX_VALUE, 0, 0}, {0, Integer.MIN_VALUE, 0},
            {0, Integer.MAX_VALUE, 0}, {0, 0, Integer.MIN_VALUE}, {0, 0, Integer.MAX_VALUE},
            {1, -66, 0}, {-1, 66, 0}, {5, 66, 0}, {5, 0, 65536}, {5, -1, 0},
        };
        for (int[] w : wrong) {
            due.refused("write(" + w[0] + ", " + w[1] + ", " + w[2] + ")", IllegalArgumentException.class,
                () -> rack.write(w[0], w[1], w[2]));
        }
        due.refused("write(5, 0, 0), not live", IllegalStateException.class, () -> rack.write(5, 0, 0));
        due.is("look(0)", 0, () -> rack.look(0));
        due.is("look(1)", 0, () -> rack.look(1));
        due.is("look(2)", 0, () -> rack.look(2));
        due.is("the tape is as it was", 2, () -> rack.feed(1, 88));
        rack.power();
        rack.replace(5);
        due.is("write(5, 0, 0), replaced", true, () -> rack.write(5, 0, 0));
        due.is("at(5, 0, 0)", 77, () -> rack.at(5, 0, 0));
        due.is("at(5, 0, 1)", 88, () -> rack.at(5, 0, 1));
    }
}
