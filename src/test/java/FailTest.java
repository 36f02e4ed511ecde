/** Promise 9. */
public final class FailTest {
    public static void main(String[] args) {
        Due due = new Due();
        CellRack rack = new CellRack();
        rack.write(0, 0, 1);
        rack.write(0, 65, 2);
        rack.corrupt(0, 65, 0, 1, 1);
        rack.write(1, 0, 3);
        rack.write(15, 65, 4);
        due.is("fail(0)", true, () -> rack.fail(0));
        for (int i = 0; i < 66; i++) {
            int cell = i;
            due.is("cell(0, " + cell + ")", 0, () -> rack.cell(0, cell));
            due.is("cell(2, " + cell + ")", 1, () -> rack.cell(2, cell));
        }
        due.is("fail(0) once more", false, () -> rack.fail(0));
        due.is("cell(1, 0)", 2, () -> rack.cell(1, 0));
        due.is("look(3)", 15, () -> rack.look(3));
        due.is("look(4)", 2, () -> rack.look(4));
        due.is("look(5)", 0, () -> rack.look(5));
        due.is("look(0): what was done was done", 4, () -> rack.look(0));
        due.is("fail(15)", true, () -> rack.fail(15));
        due.is("cell(15, 65)", 0, () -> rack.cell(15, 65));
        int[] wrong = {-1, 16, Integer.MIN_VALUE, Integer.MAX_VALUE};
        for (int disk : wrong) {
            due.refused("fail(" + disk + ")", IllegalArgumentException.class, () -> rack.fail(disk));
        }
        due.is("look(3) behind wrong calls", 14, () -> rack.look(3));
        for (int i = 1; i < 15; i++) {
            int disk = i;
            due.is("fail(" + disk + ")", true, () -> rack.fail(disk));
        }
        due.is("look(3) of no live disk", 0, () -> rack.look(3));
        due.is("look(4) of no live disk", 0, () -> rack.look(4));
        due.end();
    }
}
