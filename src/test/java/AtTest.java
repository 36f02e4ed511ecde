import java.util.NoSuchElementException;

/** Promise 8. */
public final class AtTest {
    public static void main(String[] args) {
        Due due = new Due();
        CellRack rack = new CellRack();
        due.refused("at of a blank cell", NoSuchElementException.class, () -> rack.at(6, 7, 0));
        for (int i = 0; i < 64; i++) {
            rack.feed(1, 200 + i);
        }
        rack.write(6, 7, 0xFE81);
        for (int i = 0; i < 64; i++) {
            int k = i;
            due.is("byte " + k, (200 + k) & 255, () -> rack.at(6, 7, k));
        }
        due.is("byte 64", 0x81, () -> rack.at(6, 7, 64));
        due.is("byte 65", 0xFE, () -> rack.at(6, 7, 65));
        int lastByte = rack.at(6, 7, 69);
        rack.corrupt(6, 7, 69, 255, 1);
        due.is("a changed byte as it is", lastByte ^ 255, () -> rack.at(6, 7, 69));
        int[] wrong = {-1, 70, 71, 72, Integer.MIN_VALUE, Integer.MAX_VALUE};
        for (int k : wrong) {
            due.refused("at(6, 7, " + k + ")", NoSuchElementException.class, () -> rack.at(6, 7, k));
        }
        int[][] none = {{-1, 0, 0}, {16, 0, 0}, {0, -1, 0}, {0, 66, 0}, {16, 0, 70}, {0, 66, -1},
            {Integer.MIN_VALUE, 0, 0}, {Integer.MAX_VALUE, 0, 0}, {0, Integer.MIN_VALUE, 0}, {0, Integer.MAX_VALUE, 0}};
        for (int[] w : none) {
            due.refused("at(" + w[0] + ", " + w[1] + ", " + w[2] + ")", IllegalArgumentException.class,
                () -> rack.at(w[0], w[1], w[2]));
        }
        rack.fail(6);
        due.refused("at of no live disk's cell", NoSuchElementException.class, () -> rack.at(6, 7, 0));
        due.refused("at(6, 66, 0) of no live disk", IllegalArgumentException.class, () -> rack.at(6, 66, 0));
        rack.replace(6);
        due.refused("at of a new disk's cell", NoSuchElementException.class, () -> rack.at(6, 7, 0));
        due.end();
    }
}
