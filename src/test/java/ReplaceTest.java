/** Promise 10. */
public final class ReplaceTest {
    public static void main(String[] args) {
        Due due = new Due();
        CellRack rack = new CellRack();
        rack.write(15, 65, 1);
        rack.write(15, 0, 2);
        rack.corrupt(15, 0, 0, 1, 1);
        due.is("replace of a live disk", false, () -> rack.replace(15));
        due.is("its cell is as it was", 2, () -> rack.cell(15, 65));
        due.is("and the other one", 3, () -> rack.cell(15, 0));
        rack.fail(15);
        due.is("replace of another one, that is live", false, () -> rack.replace(14));
        due.is("look(3)", 15, () -> rack.look(3));
        due.is("replace(15)", true, () -> rack.replace(15));
        for (int i = 0; i < 66; i++) {
            int cell = i;
            due.is("cell(15, " + cell + ")", 1, () -> rack.cell(15, cell));
        }
        due.is("look(3)", 16, () -> rack.look(3));
        due.is("look(4)", 0, () -> rack.look(4));
        due.is("look(5)", 0, () -> rack.look(5));
        due.is("replace(15) once more", false, () -> rack.replace(15));
        due.is("corrupt of its cell", false, () -> rack.corrupt(15, 65, 0, 0, 1));
        due.is("write into it", true, () -> rack.write(15, 65, 9));
        due.is("tag(15, 65)", 9, () -> rack.tag(15, 65));
        due.is("look(0) counts over all disks", 3, () -> rack.look(0));
        int[] wrong = {-1, 16, Integer.MIN_VALUE, Integer.MAX_VALUE};
        for (int disk : wrong) {
            due.refused("replace(" + disk + ")", IllegalArgumentException.class, () -> rack.replace(disk));
        }
        withThePowerOff(due);
        due.end();
    }

    private static void withThePowerOff(Due due) {
        CellRack rack = new CellRack();
        rack.lose(1);
        rack.write(0, 0, 0);
        due.is("fail with the power off", true, () -> rack.fail(0));
        due.is("replace with the power off", true, () -> rack.replace(0));
        due.is("look(1)", 1, () -> rack.look(1));
    }
}
