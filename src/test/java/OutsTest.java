import java.util.NoSuchElementException;

/** Promise 5. */
public final class OutsTest {
    public static void main(String[] args) {
        Due due = new Due();
        eightAtMostLowestFirst(due);
        highBytesMakeItNegative(due);
        zerosAreBytesToo(due);
        noByteOfAnEmptyOut(due);
        noByteOutside(due);
        due.end();
    }

    private static CellRack read() {
        CellRack rack = new CellRack();
        for (int i = 0; i < 64; i++) {
            rack.feed(1, 255 - 3 * i);
        }
        rack.write(0, 0, 65535);
        rack.read(0, 0);
        return rack;
    }

    private static long wanted(int k) {
        long sum = 0;
        long weight = 1;
        for (int i = k; i < 64 && i < k + 8; i++) {
            sum += weight * Math.floorMod(255 - 3 * i, 256);
            weight *= 256;
        }
        return sum;
    }

    /** "The OUT's bytes from k on, eight at most, lowest first, as a number." */
    private static void eightAtMostLowestFirst(Due due) {
        CellRack rack = read();
        for (int i = 0; i < 64; i++) {
            int k = i;
            due.is("outs(" + k + ")", wanted(k), () -> rack.outs(k));
        }
        due.is("outs(63), one byte", (255 - 3 * 63) & 255, () -> rack.outs(63));
    }

    /** "The OUT's bytes from k on, eight at most .. as a number." */
    private static void highBytesMakeItNegative(Due due) {
        CellRack rack = new CellRack();
        for (int i = 0; i < 8; i++) {
            rack.feed(8, -1L);
        }
        rack.write(0, 0, 0);
        rack.read(0, 0);
        due.is("outs(0), eight bytes 255", -1L, () -> rack.outs(0));
        due.is("outs(55), eight bytes 255", -1L, () -> rack.outs(55));
        due.is("outs(56), eight bytes 255", -1L, () -> rack.outs(56));
        for (int i = 57; i < 64; i++) {
            int k = i;
            due.is("outs(" + k + "), " + (64 - k) + " bytes 255", (1L << 8 * (64 - k)) - 1, () -> rack.outs(k));
        }
        rack.feed(8, Long.MIN_VALUE);
        rack.write(0, 0, 0);
        rack.read(0, 0);
        due.is("outs(0), 128 on top", Long.MIN_VALUE, () -> rack.outs(0));
        due.is("outs(7), 128", 128, () -> rack.outs(7));
    }

    private static void zerosAreBytesToo(Due due) {
        CellRack rack = new CellRack();
        rack.write(0, 0, 65535);
        rack.read(0, 0);
        due.is("outs(0) of 0s", 0, () -> rack.outs(0));
        due.is("outs(63) of 0s", 0, () -> rack.outs(63));
    }

    /** "Throws NoSuchElementException when there is no byte k." */
    private static void noByteOfAnEmptyOut(Due due) {
        int[] all = {0, 1, 63, 64, -1, Integer.MIN_VALUE, Integer.MAX_VALUE};
        CellRack fresh = new CellRack();
        CellRack emptied = read();
        emptied.read(0, 1);
        for (int k : all) {
            due.refused("outs(" + k + ") before any read", NoSuchElementException.class, () -> fresh.outs(k));
            due.refused("outs(" + k + ") of an empty OUT", NoSuchElementException.class, () -> emptied.outs(k));
        }
    }

    /** "Throws NoSuchElementException when there is no byte k." */
    private static void noByteOutside(Due due) {
        CellRack rack = read();
        int[] wrong = {-1, -8, 64, 65, 69, 70, Integer.MIN_VALUE, Integer.MIN_VALUE + 7, Integer.MAX_VALUE,
            Integer.MAX_VALUE - 7};
        for (int k : wrong) {
            due.refused("outs(" + k + ")", NoSuchElementException.class, () -> rack.outs(k));
        }
        due.is("outs(0) behind them", wanted(0), () -> rack.outs(0));
    }
}
