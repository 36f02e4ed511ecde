import java.util.Arrays;
import java.util.NoSuchElementException;

/** A rack of disks whose cells tell by themselves whether they are as they were written. */
public final class CellRack {
    private static final int DISKS = 16;
    private static final int CELLS = 66;
    private static final int ALL_CELLS = DISKS * CELLS;

    private static final int DATA_BYTES = 64;
    private static final int CHECKED_BYTES = 66;
    private static final int CELL_BYTES = 70;
    private static final int MOST_TAG = 65535;
    private static final int MOST_AT_ONCE = 8;

    // Eight bytes stand in one long, lowest first: a cell is eight words of data and a
    // last word with its tag (bits 0 .. 15) and its check (bits 16 .. 47).
    private static final int DATA_WORDS = 8;
    private static final int CELL_WORDS = 9;
    private static final int CHECK_SHIFT = 16;
    private static final long CHECK_BITS = 4294967295L;
    private static final long CHECK_TURN = 2197175160L;

    // The kinds of a cell are the answers of cell(..).
    private static final int NOT_LIVE = 0;
    private static final int BLANK = 1;
    private static final int VALID = 2;
    private static final int BROKEN = 3;
    private static final int KINDS = 4;

    private static final int NOTHING_SAID = -1;

    private final long[] now;
    private final long[] latest;
    private final int[] kinds;
    private final int[] cellsOfKind;
    private int liveDisks;

    private final long[] tape;
    private int tapeBytes;
    private final long[] out;
    private int outBytes;

    private boolean off;
    private int writesLeft;
    private long writesDone;

    public CellRack() {
        now = new long[ALL_CELLS * CELL_WORDS];
        latest = new long[ALL_CELLS * CELL_WORDS];
        kinds = new int[ALL_CELLS];
        Arrays.fill(kinds, BLANK);
        cellsOfKind = new int[KINDS];
        cellsOfKind[BLANK] = ALL_CELLS;
        liveDisks = DISKS;
        tape = new long[DATA_WORDS];
        tapeBytes = 0;
        out = new long[DATA_WORDS];
        outBytes = 0;
        off = false;
        writesLeft = NOTHING_SAID;
        writesDone = 0;
    }

    public int feed(int n, long v) throws IllegalArgumentException, IllegalStateException {
        if (!isCount(n)) {
            throw new IllegalArgumentException("n is not 1 .. 8");
        }
        if (tapeBytes + n > DATA_BYTES) {
            throw new IllegalStateException("the tape would have more than 64 bytes");
        }
        // Behind its end the tape is all 0, so turning bits there puts the bytes.
        turnBytes(tape, 0, tapeBytes, v, n);
        tapeBytes += n;
        return tapeBytes;
    }

    public boolean write(int disk, int cell, int tag) throws IllegalArgumentException, IllegalStateException {
        if (!isCell(disk, cell) || tag < 0 || tag > MOST_TAG) {
            throw new IllegalArgumentException("no such cell or tag");
        }
        if (!isLive(disk)) {
            throw new IllegalStateException("the disk is not live");
        }
        boolean powered = drawPower();
        if (powered) {
            putTape(spotOf(disk, cell), tag);
            writesDone++;
        }
        // The tape is used up by a write that is not done, too.
        clearTape();
        return powered;
    }

    public boolean read(int disk, int cell) throws IllegalArgumentException {
        needCell(disk, cell);
        int spot = spotOf(disk, cell);
        boolean valid = kinds[spot] == VALID;
        if (valid) {
            System.arraycopy(now, spot * CELL_WORDS, out, 0, DATA_WORDS);
        }
        outBytes = valid ? DATA_BYTES : 0;
        return valid;
    }

    public long outs(int k) throws NoSuchElementException {
        if (k < 0 || k >= outBytes) {
            throw new NoSuchElementException("the OUT has no such byte");
        }
        int end = Math.min(k + MOST_AT_ONCE, outBytes);
        long bytes = 0;
        for (int i = end - 1; i >= k; i--) {
            bytes = (bytes << 8) | byteOf(out, 0, i);
        }
        return bytes;
    }

    public int tag(int disk, int cell) throws IllegalArgumentException {
        needCell(disk, cell);
        int spot = spotOf(disk, cell);
        return kinds[spot] == VALID ? (int) (now[spot * CELL_WORDS + DATA_WORDS] & MOST_TAG) : -1;
    }

    public int cell(int disk, int cell) throws IllegalArgumentException {
        needCell(disk, cell);
        return kinds[spotOf(disk, cell)];
    }

    public int at(int disk, int cell, int k) throws IllegalArgumentException, NoSuchElementException {
        needCell(disk, cell);
        int spot = spotOf(disk, cell);
        if (!hasBytes(spot) || k < 0 || k >= CELL_BYTES) {
            throw new NoSuchElementException("the cell has no such byte");
        }
        return byteOf(now, spot * CELL_WORDS, k);
    }

    public boolean fail(int disk) throws IllegalArgumentException {
        needDisk(disk);
        if (!isLive(disk)) {
            return false;
        }
        setKindOfAll(disk, NOT_LIVE);
        liveDisks--;
        return true;
    }

    public boolean replace(int disk) throws IllegalArgumentException {
        needDisk(disk);
        if (isLive(disk)) {
            return false;
        }
        setKindOfAll(disk, BLANK);
        liveDisks++;
        return true;
    }

    public boolean corrupt(int disk, int cell, int place, long mask, int n) throws IllegalArgumentException {
        if (!isCell(disk, cell) || !isCount(n) || place < 0 || place > CELL_BYTES - n) {
            throw new IllegalArgumentException("no such cell or bytes");
        }
        int spot = spotOf(disk, cell);
        if (!hasBytes(spot)) {
            return false;
        }
        int from = spot * CELL_WORDS;
        turnBytes(now, from, place, mask, n);
        if (isAsWritten(from)) {
            setKind(spot, VALID);
            return true;
        }
        if (hasItsCheck(from)) {
            // Turning the same bits once more puts the bytes back.
            turnBytes(now, from, place, mask, n);
            return false;
        }
        setKind(spot, BROKEN);
        return true;
    }

    public void lose(int n) throws IllegalArgumentException, IllegalStateException {
        if (n < 1) {
            throw new IllegalArgumentException("n is below 1");
        }
        if (off) {
            throw new IllegalStateException("the power is off");
        }
        writesLeft = n - 1;
    }

    public boolean power() {
        boolean wasOff = off;
        off = false;
        writesLeft = NOTHING_SAID;
        return wasOff;
    }

    public long look(int what) throws NoSuchElementException {
        switch (what) {
            case 0:
                return writesDone;
            case 1:
                return off ? 1 : 0;
            case 2:
                return writesLeft;
            case 3:
                return liveDisks;
            case 4:
                return cellsOfKind[VALID];
            case 5:
                return cellsOfKind[BROKEN];
            default:
                throw new NoSuchElementException("there is nothing of this number to look at");
        }
    }

    private static boolean isDisk(int disk) {
        return disk >= 0 && disk < DISKS;
    }

    private static boolean isCell(int disk, int cell) {
        return isDisk(disk) && cell >= 0 && cell < CELLS;
    }

    private static boolean isCount(int n) {
        return n >= 1 && n <= MOST_AT_ONCE;
    }

    private static void needDisk(int disk) {
        if (!isDisk(disk)) {
            throw new IllegalArgumentException("no such disk");
        }
    }

    private static void needCell(int disk, int cell) {
        if (!isCell(disk, cell)) {
            throw new IllegalArgumentException("no such cell");
        }
    }

    private static int spotOf(int disk, int cell) {
        return disk * CELLS + cell;
    }

    // All cells of a disk are NOT_LIVE or none is, so that the first one speaks for it.
    private boolean isLive(int disk) {
        return kinds[spotOf(disk, 0)] != NOT_LIVE;
    }

    private boolean hasBytes(int spot) {
        return kinds[spot] == VALID || kinds[spot] == BROKEN;
    }

    // The counts are kept here so that look(..) need not go through all cells.
    private void setKind(int spot, int kind) {
        cellsOfKind[kinds[spot]]--;
        kinds[spot] = kind;
        cellsOfKind[kind]++;
    }

    private void setKindOfAll(int disk, int kind) {
        for (int cell = 0; cell < CELLS; cell++) {
            setKind(spotOf(disk, cell), kind);
        }
    }

    /** Whether the power is there for one more write; it goes off at the one that it was to be lost at. */
    private boolean drawPower() {
        if (writesLeft == 0) {
            off = true;
        }
        if (off) {
            return false;
        }
        if (writesLeft != NOTHING_SAID) {
            writesLeft--;
        }
        return true;
    }

    private void putTape(int spot, int tag) {
        int from = spot * CELL_WORDS;
        System.arraycopy(tape, 0, now, from, DATA_WORDS);
        // The tag has to stand there before the check, which is taken over it, too.
        now[from + DATA_WORDS] = tag;
        now[from + DATA_WORDS] |= checkOf(from) << CHECK_SHIFT;
        System.arraycopy(now, from, latest, from, CELL_WORDS);
        setKind(spot, VALID);
    }

    private void clearTape() {
        Arrays.fill(tape, 0L);
        tapeBytes = 0;
    }

    private boolean isAsWritten(int from) {
        for (int i = from; i < from + CELL_WORDS; i++) {
            if (now[i] != latest[i]) {
                return false;
            }
        }
        return true;
    }

    private boolean hasItsCheck(int from) {
        return (now[from + DATA_WORDS] >>> CHECK_SHIFT) == checkOf(from);
    }

    private long checkOf(int from) {
        long word = CHECK_BITS;
        for (int k = 0; k < CHECKED_BYTES; k++) {
            word ^= byteOf(now, from, k);
            for (int bit = 0; bit < 8; bit++) {
                word = (word & 1) != 0 ? (word >>> 1) ^ CHECK_TURN : word >>> 1;
            }
        }
        return word ^ CHECK_BITS;
    }

    private static int byteOf(long[] words, int from, int k) {
        return (int) (words[from + k / 8] >>> (k % 8 * 8)) & 255;
    }

    /** The n bytes from a place on become themselves ^ the lowest bytes of mask. */
    private static void turnBytes(long[] words, int from, int place, long mask, int n) {
        for (int i = 0; i < n; i++) {
            int k = place + i;
            words[from + k / 8] ^= ((mask >>> (i * 8)) & 255L) << (k % 8 * 8);
        }
    }
}
