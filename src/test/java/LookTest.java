import java.util.NoSuchElementException;

/** Promise 14. */
public final class LookTest {
    public static void main(String[] args) {
        Due due = new Due();
        CellRack rack = new CellRack();
        looks(due, rack, 0, 0, -1, 16, 0, 0);
        rack.write(0, 0, 1);
        rack.write(0, 0, 2);
        rack.write(0, 1, 3);
        rack.write(1, 0, 4);
        looks(due, rack, 4, 0, -1, 16, 3, 0);
        rack.corrupt(0, 0, 0, 1, 1);
        rack.corrupt(1, 0, 0, 1, 1);
        rack.corrupt(1, 0, 0, 2, 1);
        looks(due, rack, 4, 0, -1, 16, 1, 2);
        rack.lose(2);
        looks(due, rack, 4, 0, 1, 16, 1, 2);
        rack.write(1, 0, 5);
        looks(due, rack, 5, 0, 0, 16, 2, 1);
        rack.write(1, 1, 5);
        looks(due, rack, 5, 1, 0, 16, 2, 1);
        rack.fail(0);
        looks(due, rack, 5, 1, 0, 15, 1, 0);
        rack.fail(0);
        rack.replace(1);
        looks(due, rack, 5, 1, 0, 15, 1, 0);
        rack.power();
        rack.replace(0);
        looks(due, rack, 5, 0, -1, 16, 1, 0);
        int[] wrong = {-1, 6, 7, Integer.MIN_VALUE, Integer.MAX_VALUE};
        for (int what : wrong) {
            due.refused("look(" + what + ")", NoSuchElementException.class, () -> rack.look(what));
        }
        due.end();
    }

    private static void looks(Due due, CellRack rack, int... want) {
        for (int i = 0; i < want.length; i++) {
            int what = i;
            due.is("look(" + what + ")", want[what], () -> rack.look(what));
        }
    }
}
