/** Promise 12. */
public final class LoseTest {
    public static void main(String[] args) {
        Due due = new Due();
        theWriteItIsLostAt(due);
        theNewWordCounts(due);
        onlyWritesCount(due);
        wrongInputs(due);
        due.end();
    }

    private static Object said(CellRack rack, int n) {
        rack.lose(n);
        return "said";
    }

    private static void theWriteItIsLostAt(Due due) {
        for (int count = 1; count <= 5; count++) {
            int n = count;
            CellRack rack = new CellRack();
            due.is("lose(" + n + ")", "said", () -> said(rack, n));
            for (int i = 0; i < n - 1; i++) {
                int left = n - 1 - i;
                due.is("look(2)", left, () -> rack.look(2));
                due.is("a write before", true, () -> rack.write(0, left, 1));
            }
            due.is("look(1)", 0, () -> rack.look(1));
            due.is("look(2)", 0, () -> rack.look(2));
            due.is("the write it is lost at", false, () -> rack.write(1, 0, 1));
            due.is("its cell", 1, () -> rack.cell(1, 0));
            due.is("look(1)", 1, () -> rack.look(1));
            due.is("a write behind", false, () -> rack.write(1, 0, 1));
            due.is("and another one", false, () -> rack.write(1, 1, 1));
            due.is("look(0)", n - 1, () -> rack.look(0));
            due.is("look(2)", 0, () -> rack.look(2));
        }
    }

    private static void theNewWordCounts(Due due) {
        CellRack rack = new CellRack();
        rack.lose(1);
        due.is("lose(3) in place of lose(1)", "said", () -> said(rack, 3));
        due.is("look(2)", 2, () -> rack.look(2));
        due.is("write", true, () -> rack.write(0, 0, 0));
        due.is("lose(Integer.MAX_VALUE)", "said", () -> said(rack, Integer.MAX_VALUE));
        due.is("look(2)", Integer.MAX_VALUE - 1, () -> rack.look(2));
        due.is("write", true, () -> rack.write(0, 0, 0));
        due.is("write", true, () -> rack.write(0, 0, 0));
        due.is("lose(1)", "said", () -> said(rack, 1));
        due.is("write", false, () -> rack.write(0, 0, 0));
    }

    private static void onlyWritesCount(Due due) {
        CellRack rack = new CellRack();
        rack.lose(2);
        rack.fail(3);
        rack.feed(1, 1);
        rack.read(0, 0);
        rack.corrupt(0, 0, 0, 1, 1);
        due.refused("a write that throws", IllegalStateException.class, () -> rack.write(3, 0, 0));
        due.refused("a write that throws", IllegalArgumentException.class, () -> rack.write(0, 0, -1));
        rack.replace(3);
        due.is("look(2)", 1, () -> rack.look(2));
        due.is("write", true, () -> rack.write(3, 0, 0));
        due.is("write", false, () -> rack.write(3, 0, 0));
    }

    private static void wrongInputs(Due due) {
        CellRack rack = new CellRack();
        rack.lose(2);
        int[] wrong = {0, -1, Integer.MIN_VALUE};
        for (int n : wrong) {
            due.refused("lose(" + n + ")", IllegalArgumentException.class, () -> said(rack, n));
        }
        due.is("look(2) is as it was", 1, () -> rack.look(2));
        rack.write(0, 0, 0);
        rack.write(0, 0, 0);
        due.refused("lose(0), power off", IllegalArgumentException.class, () -> said(rack, 0));
        due.refused("lose(1), power off", IllegalStateException.class, () -> said(rack, 1));
        due.refused("lose(9), power off", IllegalStateException.class, () -> said(rack, 9));
        due.is("look(1)", 1, () -> rack.look(1));
        due.is("look(2)", 0, () -> rack.look(2));
    }
}
