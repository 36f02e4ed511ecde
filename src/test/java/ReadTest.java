import java.util.NoSuchElementException;

/** Promise 4. */
public final class ReadTest {
    public static void main(String[] args) {
        Due due = new Due();
        validOrNot(due);
        theOutIsOfTheTimeOfReading(due);
        wrongInputs(due);
        due.end();
    }

    private static CellRack written() {
        CellRack rack = new CellRack();
        rack.feed(8, 0x0807060504030201L);
        rack.write(1, 2, 3);
        return rack;
    }

    private static void outIsEmpty(Due due, CellRack rack) {
        due.refused("outs(0) of an empty OUT", NoSuchElementException.class, () -> rack.outs(0));
        due.refused("outs(63) of an empty OUT", NoSuchElementException.class, () -> rack.outs(63));
    }

    private static void validOrNot(Due due) {
        CellRack rack = written();
        due.is("read of a valid cell", true, () -> rack.read(1, 2));
        due.is("outs(0)", 0x0807060504030201L, () -> rack.outs(0));
        due.is("read of a blank cell", false, () -> rack.read(1, 3));
        outIsEmpty(due, rack);
        rack.read(1, 2);
        rack.corrupt(1, 2, 69, 128, 1);
        due.is("read of a broken cell", false, () -> rack.read(1, 2));
        outIsEmpty(due, rack);
        rack.corrupt(1, 2, 69, 128, 1);
        due.is("read of a cell that is valid again", true, () -> rack.read(1, 2));
        due.is("outs(0)", 0x0807060504030201L, () -> rack.outs(0));
        rack.fail(1);
        due.is("read of no live disk's cell", false, () -> rack.read(1, 2));
        outIsEmpty(due, rack);
        rack.replace(1);
        due.is("read of a new disk's cell", false, () -> rack.read(1, 2));
        outIsEmpty(due, rack);
    }

    private static void theOutIsOfTheTimeOfReading(Due due) {
        CellRack rack = written();
        rack.read(1, 2);
        rack.feed(1, 99);
        rack.write(1, 2, 4);
        rack.corrupt(1, 2, 0, 1, 1);
        rack.fail(1);
        rack.lose(1);
        rack.write(0, 0, 0);
        due.is("outs(0)", 0x0807060504030201L, () -> rack.outs(0));
        due.is("read with the power off", false, () -> rack.read(0, 0));
        outIsEmpty(due, rack);
    }

    private static void wrongInputs(Due due) {
        CellRack rack = written();
        rack.read(1, 2);
        int[][] wrong = {{-1, 2}, {16, 2}, {1, -1}, {1, 66}, {0, 68}, {2, -64},
            {Integer.MIN_VALUE, 0}, {Integer.MAX_VALUE, 0}, {0, Integer.MIN_VALUE}, {0, Integer.MAX_VALUE}};
        for (int[] w : wrong) {
            due.refused("read(" + w[0] + ", " + w[1] + ")", IllegalArgumentException.class,
                () -> rack.read(w[0], w[1]));
        }
        due.is("the OUT is as it was", 0x0807060504030201L, () -> rack.outs(0));
    }
}
