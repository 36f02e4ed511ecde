import java.util.zip.CRC32C;

/** What the tests share: answers that are due, wrong ones told and counted, and inputs at the edges. */
final class Due {
    interface Call {
        Object answer();
    }

    /** The first and the last cells of the first and the last disks. */
    static final int[][] CORNERS = {{0, 0}, {0, 65}, {15, 0}, {15, 65}};

    static final int[] NO_DISKS = {-1, 16, 17, 66, 256, -16, Integer.MIN_VALUE, Integer.MIN_VALUE + 1,
        Integer.MAX_VALUE, Integer.MAX_VALUE - 1};

    static final int[][] NO_CELLS = {{-1, 0}, {16, 0}, {-1, 65}, {16, 65}, {0, -1}, {0, 66}, {15, -1}, {15, 66},
        {Integer.MIN_VALUE, 0}, {Integer.MAX_VALUE, 0}, {0, Integer.MIN_VALUE}, {0, Integer.MAX_VALUE},
        {Integer.MIN_VALUE, Integer.MIN_VALUE}, {Integer.MAX_VALUE, Integer.MAX_VALUE},
        // Counted on, these would be cells of other disks.
        {1, -66}, {1, -1}, {-1, 66}, {-1, 131}, {16, -1}, {0, 67}, {0, 1055},
        // 66 times these disks is a small number again once an int has wrapped round.
        {65075263, 0}, {-65075262, 0}, {Integer.MIN_VALUE, 65}};

    private int asked = 0;
    private int wrong = 0;

    /** The answer of a call is the one that is due; a whole number of any type may be told as int. */
    void is(String told, Object want, Call call) {
        asked++;
        Object got = answerOf(call);
        if (!plain(got).equals(plain(want))) {
            wrong++;
            System.out.println(told + " answered " + got + ", due is " + want);
        }
    }

    /** The call throws just this exception and not one below it. */
    void refused(String told, Class<? extends RuntimeException> want, Call call) {
        is(told, "throws." + want.getSimpleName(), call);
    }

    void end() {
        System.out.println(wrong == 0 ? asked + " answers are as due" : wrong + " answers are not as due");
        if (wrong != 0 || asked == 0) {
            System.exit(1);
        }
    }

    static Object answerOf(Call call) {
        try {
            return call.answer();
        } catch (RuntimeException e) {
            return "throws." + e.getClass().getSimpleName();
        }
    }

    private static Object plain(Object answer) {
        return answer instanceof Number n ? (Object) n.longValue() : answer;
    }

    /** A call without an answer, so that it can be asked for like the others. */
    static Object lost(CellRack rack, int n) {
        rack.lose(n);
        return "said";
    }

    /** Loses the power at a write on disk 0, or on disk 1 if that one is not live; the tape is empty then. */
    static void turnOff(CellRack rack) {
        rack.lose(1);
        rack.write(rack.cell(0, 0) == 0 ? 1 : 0, 0, 0);
    }

    /** The check of bytes by the Java library's own CRC-32C, which is the one that the document tells. */
    static long check(byte[] bytes, int n) {
        CRC32C crc = new CRC32C();
        crc.update(bytes, 0, n);
        return crc.getValue();
    }

    static byte[] bytesOf(CellRack rack, int disk, int cell) {
        byte[] bytes = new byte[70];
        for (int k = 0; k < bytes.length; k++) {
            bytes[k] = (byte) rack.at(disk, cell, k);
        }
        return bytes;
    }

    /** By which bits the check changes when byte k of a cell becomes itself ^ mask. */
    static long checkTurn(CellRack rack, int disk, int cell, int k, int mask) {
        byte[] bytes = bytesOf(rack, disk, cell);
        long before = check(bytes, 66);
        bytes[k] ^= (byte) mask;
        return before ^ check(bytes, 66);
    }
}
