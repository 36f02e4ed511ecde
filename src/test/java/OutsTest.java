import java.util.NoSuchElementException;

/** Promise 5. */
public final class OutsTest {
    public static void main(String[] args) {
        Due due = new Due();
        CellRack rack = new CellRack();
        due.refused("outs(0) before any read", NoSuchElementException.class, () -> rack.outs(0));
        for (int i = 0; i < 64; i++) {
            rack.feed(1, 255 - 3 * i);
        }
        rack.write(0, 0, 65535);
        rack.read(0, 0);
        for (int i = 0; i < 64; i++) {
            int k = i;
            due.is("outs(" + k + ")", wanted(k), () -> rack.outs(k));
        }
        int[] wrong = {-1, 64, 65, 69, Integer.MIN_VALUE, Integer.MAX_VALUE, Integer.MAX_VALUE - 7};
        for (int k : wrong) {
            due.refused("outs(" + k + ")", NoSuchElementException.class, () -> rack.outs(k));
        }
        rack.read(0, 1);
        due.refused("outs(0) of an empty OUT", NoSuchElementException.class, () -> rack.outs(0));
        due.end();
    }

    private static long wanted(int k) {
        long sum = 0;
        long weight = 1;
        for (int i = k; i < 64 && i < k + 8; i++) {
            sum += weight * Math.floorMod(255 - 3 * i, 256);
            weight *= 256;
        }
        return sum;
    }
}
