import java.util.NoSuchElementException;

/** Promise 14. */
public final class LookTest {
    public static void main(String[] args) {
        Due due = new Due();
        allOfThemInOneRun(due);
        writesThatWereDone(due);
        whetherThePowerIsOff(due);
        writesBeforeItIsLost(due);
        liveDisks(due);
        validCellsOfLiveDisks(due);
        brokenCellsOfLiveDisks(due);
        asManyCellsAsOneObjectCanHave(due);
        anotherWhat(due);
        due.end();
    }

    private static void allOfThemInOneRun(Due due) {
        CellRack rack = new CellRack();
        looks(due, rack, 0, 0, -1, 16, 0, 0);
        rack.write(0, 0, 1);
        rack.write(0, 0, 2);
        rack.write(0, 1, 3);
        rack.write(1, 0, 4);
        looks(due, rack, 4, 0, -1, 16, 3, 0);
        rack.corrupt(0, 0, 0, 1, 1);
        rack.corrupt(1, 0, 0, 1, 1);
        rack.corrupt(1, 0, 0, 2, 1);
        looks(due, rack, 4, 0, -1, 16, 1, 2);
        rack.lose(2);
        looks(due, rack, 4, 0, 1, 16, 1, 2);
        rack.write(1, 0, 5);
        looks(due, rack, 5, 0, 0, 16, 2, 1);
        rack.write(1, 1, 5);
        looks(due, rack, 5, 1, 0, 16, 2, 1);
        rack.fail(0);
        looks(due, rack, 5, 1, 0, 15, 1, 0);
        rack.fail(0);
        rack.replace(1);
        looks(due, rack, 5, 1, 0, 15, 1, 0);
        rack.power();
        rack.replace(0);
        looks(due, rack, 5, 0, -1, 16, 1, 0);
    }

    /** "0 how many writes were done in all" */
    private static void writesThatWereDone(Due due) {
        CellRack rack = new CellRack();
        due.is("look(0) at first", 0, () -> rack.look(0));
        rack.write(0, 0, 0);
        rack.write(0, 0, 0);
        due.is("look(0) behind two writes into one cell", 2, () -> rack.look(0));
        rack.fail(0);
        due.refused("a write that throws", IllegalStateException.class, () -> rack.write(0, 0, 0));
        due.refused("a write that throws", IllegalArgumentException.class, () -> rack.write(1, 66, 0));
        due.is("look(0) behind them", 2, () -> rack.look(0));
        rack.replace(0);
        rack.lose(1);
        rack.write(0, 0, 0);
        rack.write(0, 0, 0);
        due.is("look(0) behind writes that were not done", 2, () -> rack.look(0));
        rack.power();
        rack.write(0, 0, 0);
        due.is("look(0) behind one more", 3, () -> rack.look(0));
    }

    /** "1 whether the power is off (1, 0)" */
    private static void whetherThePowerIsOff(Due due) {
        CellRack rack = new CellRack();
        due.is("look(1) at first", 0, () -> rack.look(1));
        rack.lose(1);
        due.is("look(1) before it is lost", 0, () -> rack.look(1));
        rack.write(0, 0, 0);
        due.is("look(1) when it is off", 1, () -> rack.look(1));
        rack.power();
        due.is("look(1) when it is on again", 0, () -> rack.look(1));
    }

    /** "2 how many will be done before it is lost (-1: nothing is said, 0: it is off, too)" */
    private static void writesBeforeItIsLost(Due due) {
        CellRack rack = new CellRack();
        due.is("look(2) at first", -1, () -> rack.look(2));
        rack.write(0, 0, 0);
        due.is("look(2) behind a write", -1, () -> rack.look(2));
        rack.lose(3);
        due.is("look(2) behind lose(3)", 2, () -> rack.look(2));
        rack.write(0, 0, 0);
        due.is("look(2) behind a write", 1, () -> rack.look(2));
        rack.write(0, 0, 0);
        due.is("look(2) behind two writes", 0, () -> rack.look(2));
        rack.write(0, 0, 0);
        due.is("look(2) when it is off", 0, () -> rack.look(2));
        rack.write(0, 0, 0);
        due.is("look(2) when it is off", 0, () -> rack.look(2));
        rack.power();
        due.is("look(2) when it is on again", -1, () -> rack.look(2));
    }

    /** "3 how many disks are live" */
    private static void liveDisks(Due due) {
        CellRack rack = new CellRack();
        due.is("look(3) at first", 16, () -> rack.look(3));
        rack.replace(0);
        due.is("look(3) behind replace of a live one", 16, () -> rack.look(3));
        for (int i = 15; i >= 0; i--) {
            int disk = i;
            rack.fail(disk);
            rack.fail(disk);
            due.is("look(3) behind fail(" + disk + ")", disk, () -> rack.look(3));
        }
        rack.replace(3);
        due.is("look(3) behind replace(3)", 1, () -> rack.look(3));
    }

    /** "4 how many cells are valid" */
    private static void validCellsOfLiveDisks(Due due) {
        CellRack rack = new CellRack();
        rack.write(0, 0, 0);
        rack.write(0, 0, 1);
        rack.write(0, 1, 0);
        rack.write(1, 0, 0);
        due.is("look(4) behind writes", 3, () -> rack.look(4));
        rack.corrupt(0, 0, 0, 1, 1);
        due.is("look(4) behind corrupt", 2, () -> rack.look(4));
        rack.corrupt(0, 0, 0, 1, 1);
        due.is("look(4) behind the same once more", 3, () -> rack.look(4));
        rack.fail(0);
        due.is("look(4) behind fail", 1, () -> rack.look(4));
        rack.replace(0);
        due.is("look(4) behind replace", 1, () -> rack.look(4));
    }

    /** "5 how many are neither blank nor valid (of live disks)" */
    private static void brokenCellsOfLiveDisks(Due due) {
        CellRack rack = new CellRack();
        rack.write(0, 0, 0);
        rack.write(0, 1, 0);
        rack.write(1, 0, 0);
        due.is("look(5) of valid cells", 0, () -> rack.look(5));
        rack.corrupt(0, 0, 0, 1, 1);
        rack.corrupt(0, 0, 9, 1, 1);
        rack.corrupt(0, 1, 0, 1, 1);
        rack.corrupt(1, 0, 0, 1, 1);
        due.is("look(5) behind corrupt", 3, () -> rack.look(5));
        rack.write(0, 1, 0);
        due.is("look(5) behind a write over one", 2, () -> rack.look(5));
        rack.fail(0);
        due.is("look(5) behind fail", 1, () -> rack.look(5));
        rack.replace(0);
        due.is("look(5) behind replace", 1, () -> rack.look(5));
        rack.corrupt(1, 0, 0, 1, 1);
        due.is("look(5) behind mending the last", 0, () -> rack.look(5));
    }

    /** 508 calls and four looks: an object is used for 512. */
    private static void asManyCellsAsOneObjectCanHave(Due due) {
        CellRack rack = new CellRack();
        for (int i = 0; i < 407; i++) {
            rack.write(i / 66, i % 66, i);
        }
        for (int i = 0; i < 101; i++) {
            rack.corrupt(i / 66, i % 66, i % 70, 1, 1);
        }
        due.is("look(0)", 407, () -> rack.look(0));
        due.is("look(4)", 306, () -> rack.look(4));
        due.is("look(5)", 101, () -> rack.look(5));
        due.is("look(3)", 16, () -> rack.look(3));
        CellRack other = new CellRack();
        for (int i = 0; i < 510; i++) {
            other.write(15 - i / 66, i % 66, i);
        }
        due.is("look(0)", 510, () -> other.look(0));
        due.is("look(4)", 510, () -> other.look(4));
    }

    /** "Throws NoSuchElementException for another what." */
    private static void anotherWhat(Due due) {
        CellRack rack = new CellRack();
        int[] wrong = {-1, 6, 7, 256, -2, Integer.MIN_VALUE, Integer.MAX_VALUE};
        for (int what : wrong) {
            due.refused("look(" + what + ")", NoSuchElementException.class, () -> rack.look(what));
        }
        looks(due, rack, 0, 0, -1, 16, 0, 0);
    }

    private static void looks(Due due, CellRack rack, int... want) {
        for (int i = 0; i < want.length; i++) {
            int what = i;
            due.is("look(" + what + ")", want[what], () -> rack.look(what));
        }
    }
}
