/** Promise 7. */
public final class CellTest {
    public static void main(String[] args) {
        Due due = new Due();
        CellRack rack = new CellRack();
        due.is("a blank cell", 1, () -> rack.cell(15, 65));
        rack.write(15, 65, 0);
        due.is("a valid cell", 2, () -> rack.cell(15, 65));
        due.is("its neighbour", 1, () -> rack.cell(15, 64));
        rack.corrupt(15, 65, 65, 64, 1);
        due.is("a broken cell", 3, () -> rack.cell(15, 65));
        rack.fail(15);
        due.is("a cell of no live disk", 0, () -> rack.cell(15, 65));
        due.is("a blank cell of no live disk", 0, () -> rack.cell(15, 0));
        due.is("a cell of the disk before", 1, () -> rack.cell(14, 65));
        rack.replace(15);
        due.is("a cell of a new disk", 1, () -> rack.cell(15, 65));
        rack.write(15, 65, 0);
        due.is("a cell written again", 2, () -> rack.cell(15, 65));
        int[][] wrong = {{-1, 0}, {16, 0}, {0, -1}, {0, 66},
            {Integer.MIN_VALUE, 0}, {Integer.MAX_VALUE, 0}, {0, Integer.MIN_VALUE}, {0, Integer.MAX_VALUE}};
        for (int[] w : wrong) {
            due.refused("cell(" + w[0] + ", " + w[1] + ")", IllegalArgumentException.class,
                () -> rack.cell(w[0], w[1]));
        }
        due.end();
    }
}
