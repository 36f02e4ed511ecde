/** Promise 2. */
public final class FeedTest {
    public static void main(String[] args) {
        Due due = new Due();
        bytesComeLowestFirst(due);
        onlyTheLowestBytesCome(due);
        signsDoNotMatter(due);
        countsOutsideAreRefused(due);
        theTapeTakesSixtyFourAndNoMore(due);
        aRefusedFeedLeavesTheTape(due);
        aTapeThatWasUsedUpIsEmpty(due);
        powerDoesNotMatter(due);
        due.end();
    }

    /** "The n lowest bytes of v, lowest first, come behind the tape: how many it has." */
    private static void bytesComeLowestFirst(Due due) {
        CellRack rack = new CellRack();
        due.is("feed(3, 0x030201)", 3, () -> rack.feed(3, 0x030201L));
        due.is("feed(8, ..)", 11, () -> rack.feed(8, 0xFBFAF9F8F7F6F5F4L));
        rack.write(0, 0, 0);
        int[] want = {1, 2, 3, 0xF4, 0xF5, 0xF6, 0xF7, 0xF8, 0xF9, 0xFA, 0xFB, 0};
        for (int i = 0; i < want.length; i++) {
            int k = i;
            due.is("byte " + k, want[k], () -> rack.at(0, 0, k));
        }
    }

    /** "The n lowest bytes of v .." */
    private static void onlyTheLowestBytesCome(Due due) {
        for (int count = 1; count <= 8; count++) {
            int n = count;
            CellRack rack = new CellRack();
            due.is("feed(" + n + ", -1)", n, () -> rack.feed(n, -1L));
            rack.feed(1, 0x5500L);
            rack.feed(1, 0x77L);
            rack.write(0, 0, 0);
            due.is("the last byte fed", 255, () -> rack.at(0, 0, n - 1));
            due.is("a byte 0 behind it", 0, () -> rack.at(0, 0, n));
            due.is("and one more", 0x77, () -> rack.at(0, 0, n + 1));
            due.is("and none more", 0, () -> rack.at(0, 0, n + 2));
        }
    }

    /** "The n lowest bytes of v .." */
    private static void signsDoNotMatter(Due due) {
        long[] all = {Long.MIN_VALUE, Long.MAX_VALUE, -1L, 0L, 1L, -128L, 128L, 0xFFL << 56};
        for (long v : all) {
            CellRack rack = new CellRack();
            due.is("feed(8, " + v + ")", 8, () -> rack.feed(8, v));
            rack.write(0, 0, 0);
            rack.read(0, 0);
            due.is("outs(0) of " + v, v, () -> rack.outs(0));
            due.is("outs(8) of " + v, 0, () -> rack.outs(8));
        }
    }

    /** "Throws IllegalArgumentException when n is not 1 .. 8" */
    private static void countsOutsideAreRefused(Due due) {
        CellRack rack = new CellRack();
        int[] wrong = {0, -1, -8, 9, 64, 65, 257, Integer.MIN_VALUE, Integer.MIN_VALUE + 1,
            Integer.MAX_VALUE, Integer.MAX_VALUE - 63};
        for (int n : wrong) {
            due.refused("feed(" + n + ", 1)", IllegalArgumentException.class, () -> rack.feed(n, 1));
        }
        due.is("feed(1, 0), the least", 1, () -> rack.feed(1, 0));
        due.is("feed(8, 0), the most", 9, () -> rack.feed(8, 0));
        for (int n : wrong) {
            due.refused("feed(" + n + ", 1)", IllegalArgumentException.class, () -> rack.feed(n, 1));
        }
        due.is("nothing has come", 10, () -> rack.feed(1, 0));
    }

    /** "IllegalStateException when it would have more than 64." */
    private static void theTapeTakesSixtyFourAndNoMore(Due due) {
        for (int length = 0; length <= 64; length++) {
            for (int count = 1; count <= 8; count++) {
                int n = count;
                CellRack rack = tapeOf(length);
                Object want = length + n <= 64 ? (Object) (length + n) : "throws.IllegalStateException";
                due.is("feed(" + n + ", -1) on a tape of " + length, want, () -> rack.feed(n, -1L));
            }
        }
    }

    private static CellRack tapeOf(int length) {
        CellRack rack = new CellRack();
        for (int i = 0; i < length; i++) {
            rack.feed(1, i + 1);
        }
        return rack;
    }

    /** "IllegalStateException when it would have more than 64.", and "a call that throws changes nothing" */
    private static void aRefusedFeedLeavesTheTape(Due due) {
        for (int length = 57; length <= 64; length++) {
            CellRack rack = tapeOf(length);
            due.refused("feed(8, -1) on a tape of " + length, IllegalStateException.class, () -> rack.feed(8, -1L));
            due.refused("feed(0, -1) on a tape of " + length, IllegalArgumentException.class, () -> rack.feed(0, -1L));
            for (int n = length + 1; n <= 64; n++) {
                int want = n;
                due.is("feed(1, 99) to " + n, want, () -> rack.feed(1, 99));
            }
            due.refused("feed(1, -1) on a tape of 64", IllegalStateException.class, () -> rack.feed(1, -1L));
            rack.write(15, 65, 65535);
            for (int i = 0; i < 64; i++) {
                int k = i;
                due.is("byte " + k, k < length ? k + 1 : 99, () -> rack.at(15, 65, k));
            }
            due.is("byte 64", 255, () -> rack.at(15, 65, 64));
        }
    }

    private static void aTapeThatWasUsedUpIsEmpty(Due due) {
        CellRack rack = tapeOf(64);
        rack.write(0, 0, 0);
        for (int i = 1; i <= 8; i++) {
            int n = 8 * i;
            due.is("feed(8, 0) to " + n, n, () -> rack.feed(8, 0));
        }
        due.refused("feed(8, 0) to 72", IllegalStateException.class, () -> rack.feed(8, 0));
    }

    private static void powerDoesNotMatter(Due due) {
        CellRack rack = new CellRack();
        Due.turnOff(rack);
        due.is("feed with the power off", 2, () -> rack.feed(2, 0x0201L));
        rack.power();
        due.is("the tape stays", 3, () -> rack.feed(1, 3));
        rack.write(0, 0, 0);
        rack.read(0, 0);
        due.is("outs(0)", 0x030201L, () -> rack.outs(0));
    }
}
