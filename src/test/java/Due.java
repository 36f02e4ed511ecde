import java.util.zip.CRC32C;

/** What the tests share: answers that are due, and wrong ones told and counted. */
final class Due {
    interface Call {
        Object answer();
    }

    private int asked = 0;
    private int wrong = 0;

    /** The answer of a call is the one that is due; a whole number of any type may be told as int. */
    void is(String told, Object want, Call call) {
        asked++;
        Object got = answerOf(call);
        if (!plain(got).equals(plain(want))) {
            wrong++;
            System.out.println(told + " answered " + got + ", due is " + want);
        }
    }

    /** The call throws just this exception and not one below it. */
    void refused(String told, Class<? extends RuntimeException> want, Call call) {
        is(told, "throws." + want.getSimpleName(), call);
    }

    void end() {
        System.out.println(wrong == 0 ? asked + " answers are as due" : wrong + " answers are not as due");
        if (wrong != 0 || asked == 0) {
            System.exit(1);
        }
    }

    static Object answerOf(Call call) {
        try {
            return call.answer();
        } catch (RuntimeException e) {
            return "throws." + e.getClass().getSimpleName();
        }
    }

    private static Object plain(Object answer) {
        return answer instanceof Number n ? (Object) n.longValue() : answer;
    }

    /** The check of bytes by the Java library's own CRC-32C, which is the one that the document tells. */
    static long check(byte[] bytes, int n) {
        CRC32C crc = new CRC32C();
        crc.update(bytes, 0, n);
        return crc.getValue();
    }

    static byte[] bytesOf(CellRack rack, int disk, int cell) {
        byte[] bytes = new byte[70];
        for (int k = 0; k < bytes.length; k++) {
            bytes[k] = (byte) rack.at(disk, cell, k);
        }
        return bytes;
    }

    /** By which bits the check changes when byte k of a cell becomes itself ^ mask. */
    static long checkTurn(CellRack rack, int disk, int cell, int k, int mask) {
        byte[] bytes = bytesOf(rack, disk, cell);
        long before = check(bytes, 66);
        bytes[k] ^= (byte) mask;
        return before ^ check(bytes, 66);
    }
}
