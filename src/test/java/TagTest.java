/** Promise 6. */
public final class TagTest {
    public static void main(String[] args) {
        Due due = new Due();
        CellRack rack = new CellRack();
        due.is("tag of a blank cell", -1, () -> rack.tag(0, 0));
        int[] tags = {0, 1, 255, 256, 32767, 32768, 65534, 65535};
        for (int tag : tags) {
            rack.feed(8, -1L);
            rack.write(15, 65, tag);
            due.is("tag written as " + tag, tag, () -> rack.tag(15, 65));
        }
        rack.corrupt(15, 65, 0, 1, 1);
        due.is("tag of a broken cell", -1, () -> rack.tag(15, 65));
        rack.corrupt(15, 65, 0, 1, 1);
        due.is("tag of a cell that is valid again", 65535, () -> rack.tag(15, 65));
        rack.fail(15);
        due.is("tag of no live disk's cell", -1, () -> rack.tag(15, 65));
        rack.replace(15);
        due.is("tag of a new disk's cell", -1, () -> rack.tag(15, 65));
        int[][] wrong = {{-1, 0}, {16, 0}, {0, -1}, {0, 66},
            {Integer.MIN_VALUE, 0}, {Integer.MAX_VALUE, 0}, {0, Integer.MIN_VALUE}, {0, Integer.MAX_VALUE}};
        for (int[] w : wrong) {
            due.refused("tag(" + w[0] + ", " + w[1] + ")", IllegalArgumentException.class,
                () -> rack.tag(w[0], w[1]));
        }
        due.end();
    }
}
