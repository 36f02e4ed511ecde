import java.util.Arrays;
import java.util.HashMap;
import java.util.Map;
import java.util.NoSuchElementException;

/** The document once more, as plainly as the Java library lets it be told: all is worked out anew at each call. */
final class PlainRack {
    private record Cell(byte[] now, byte[] latest) {
        boolean valid() {
            return valid(now);
        }

        static boolean valid(byte[] bytes) {
            return number(bytes, 66, 4) == Due.check(bytes, 66);
        }
    }

    private final Map<Integer, Map<Integer, Cell>> live = new HashMap<>();
    private byte[] tape = {};
    private byte[] out = {};
    private boolean off = false;
    private Integer lostAt = null;
    private int done = 0;

    PlainRack() {
        for (int disk = 0; disk < 16; disk++) {
            live.put(disk, new HashMap<>());
        }
    }

    private static long number(byte[] bytes, int from, int n) {
        long sum = 0;
        for (int i = 0; i < n; i++) {
            sum |= (bytes[from + i] & 255L) << (8 * i);
        }
        return sum;
    }

    private static void need(boolean held) {
        if (!held) {
            throw new IllegalArgumentException();
        }
    }

    private static void needCell(int disk, int cell) {
        need(0 <= disk && disk <= 15 && 0 <= cell && cell <= 65);
    }

    private Cell find(int disk, int cell) {
        return live.containsKey(disk) ? live.get(disk).get(cell) : null;
    }

    int feed(int n, long v) {
        need(1 <= n && n <= 8);
        if (tape.length + n > 64) {
            throw new IllegalStateException();
        }
        byte[] longer = Arrays.copyOf(tape, tape.length + n);
        for (int i = 0; i < n; i++) {
            longer[tape.length + i] = (byte) (v >> (8 * i));
        }
        tape = longer;
        return tape.length;
    }

    boolean write(int disk, int cell, int tag) {
        needCell(disk, cell);
        need(0 <= tag && tag <= 65535);
        if (!live.containsKey(disk)) {
            throw new IllegalStateException();
        }
        byte[] bytes = Arrays.copyOf(tape, 70);
        tape = new byte[0];
        if (!off && lostAt != null && done + 1 == lostAt) {
            off = true;
        }
        if (off) {
            return false;
        }
        bytes[64] = (byte) tag;
        bytes[65] = (byte) (tag >> 8);
        long check = Due.check(bytes, 66);
        for (int i = 0; i < 4; i++) {
            bytes[66 + i] = (byte) (check >> (8 * i));
        }
        live.get(disk).put(cell, new Cell(bytes, bytes.clone()));
        done++;
        return true;
    }

    boolean read(int disk, int cell) {
        boolean valid = cell(disk, cell) == 2;
        out = valid ? Arrays.copyOf(find(disk, cell).now, 64) : new byte[0];
        return valid;
    }

    long outs(int k) {
        if (k < 0 || k >= out.length) {
            throw new NoSuchElementException();
        }
        return number(out, k, Math.min(8, out.length - k));
    }

    int tag(int disk, int cell) {
        return cell(disk, cell) == 2 ? (int) number(find(disk, cell).now, 64, 2) : -1;
    }

    int cell(int disk, int cell) {
        needCell(disk, cell);
        Cell found = find(disk, cell);
        if (found == null) {
            return live.containsKey(disk) ? 1 : 0;
        }
        return found.valid() ? 2 : 3;
    }

    int at(int disk, int cell, int k) {
        needCell(disk, cell);
        Cell found = find(disk, cell);
        if (found == null || k < 0 || k > 69) {
            throw new NoSuchElementException();
        }
        return found.now[k] & 255;
    }

    boolean fail(int disk) {
        need(0 <= disk && disk <= 15);
        return live.remove(disk) != null;
    }

    boolean replace(int disk) {
        need(0 <= disk && disk <= 15);
        return live.putIfAbsent(disk, new HashMap<>()) == null;
    }

    boolean corrupt(int disk, int cell, int place, long mask, int n) {
        needCell(disk, cell);
        need(1 <= n && n <= 8);
        need(0 <= place && place <= 70 - n);
        Cell found = find(disk, cell);
        if (found == null) {
            return false;
        }
        byte[] then = found.now.clone();
        for (int i = 0; i < n; i++) {
            then[place + i] ^= (byte) (mask >> (8 * i));
        }
        if (Cell.valid(then) && !Arrays.equals(then, found.latest)) {
            return false;
        }
        live.get(disk).put(cell, new Cell(then, found.latest));
        return true;
    }

    void lose(int n) {
        need(n >= 1);
        if (off) {
            throw new IllegalStateException();
        }
        lostAt = done + n;
    }

    boolean power() {
        boolean was = off;
        off = false;
        lostAt = null;
        return was;
    }

    long look(int what) {
        return switch (what) {
            case 0 -> done;
            case 1 -> off ? 1 : 0;
            case 2 -> lostAt == null ? -1 : lostAt - done - 1;
            case 3 -> live.size();
            case 4 -> written(true);
            case 5 -> written(false);
            default -> throw new NoSuchElementException();
        };
    }

    private long written(boolean valid) {
        return live.values().stream().flatMap(d -> d.values().stream()).filter(c -> c.valid() == valid).count();
    }
}
