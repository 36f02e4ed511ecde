/** Promise 2. */
public final class FeedTest {
    public static void main(String[] args) {
        Due due = new Due();
        bytesComeLowestFirst(due);
        onlyTheLowestBytesCome(due);
        fullTape(due);
        wrongInputs(due);
        powerDoesNotMatter(due);
        due.end();
    }

    private static void bytesComeLowestFirst(Due due) {
        CellRack rack = new CellRack();
        due.is("feed(3, 0x030201)", 3, () -> rack.feed(3, 0x030201L));
        due.is("feed(8, ..)", 11, () -> rack.feed(8, 0xFBFAF9F8F7F6F5F4L));
        rack.write(0, 0, 0);
        int[] want = {1, 2, 3, 0xF4, 0xF5, 0xF6, 0xF7, 0xF8, 0xF9, 0xFA, 0xFB, 0};
        for (int i = 0; i < want.length; i++) {
            int k = i;
            due.is("byte " + k, want[k], () -> rack.at(0, 0, k));
        }
    }

    private static void onlyTheLowestBytesCome(Due due) {
        for (int count = 1; count <= 8; count++) {
            int n = count;
            CellRack rack = new CellRack();
            due.is("feed(" + n + ", -1)", n, () -> rack.feed(n, -1L));
            rack.feed(1, 0x5500L);
            rack.feed(1, 0x77L);
            rack.write(0, 0, 0);
            due.is("the last byte fed", 255, () -> rack.at(0, 0, n - 1));
            due.is("a byte 0 behind it", 0, () -> rack.at(0, 0, n));
            due.is("and one more", 0x77, () -> rack.at(0, 0, n + 1));
        }
    }

    private static void fullTape(Due due) {
        CellRack rack = new CellRack();
        for (int i = 1; i <= 7; i++) {
            int times = i;
            due.is("feed(8, ..)", 8 * times, () -> rack.feed(8, 0x1111111111111111L * times));
        }
        due.is("feed(7, ..) to 63", 63, () -> rack.feed(7, 0x99AABBCCDDEEFFL));
        due.refused("feed(2, 1) to 65", IllegalStateException.class, () -> rack.feed(2, 1));
        due.is("feed(1, 0x42) to 64", 64, () -> rack.feed(1, 0x42L));
        due.refused("feed(1, 1) to 65", IllegalStateException.class, () -> rack.feed(1, 1));
        due.refused("feed(8, 1) to 72", IllegalStateException.class, () -> rack.feed(8, 1));
        due.refused("feed(9, 1): n comes first", IllegalArgumentException.class, () -> rack.feed(9, 1));
        rack.write(15, 65, 65535);
        rack.read(15, 65);
        due.is("outs(48)", 0x7777777777777777L, () -> rack.outs(48));
        due.is("outs(56)", 0x4299AABBCCDDEEFFL, () -> rack.outs(56));
        due.is("feed after the tape was used up", 1, () -> rack.feed(1, 1));
    }

    private static void wrongInputs(Due due) {
        CellRack rack = new CellRack();
        int[] wrong = {0, -1, 9, 64, Integer.MIN_VALUE, Integer.MAX_VALUE};
        for (int n : wrong) {
            due.refused("feed(" + n + ", 1)", IllegalArgumentException.class, () -> rack.feed(n, 1));
        }
        due.is("nothing has come", 1, () -> rack.feed(1, 0));
    }

    private static void powerDoesNotMatter(Due due) {
        CellRack rack = new CellRack();
        rack.lose(1);
        rack.write(0, 0, 0);
        due.is("feed with the power off", 2, () -> rack.feed(2, 0x0201L));
        rack.power();
        due.is("the tape stays", 3, () -> rack.feed(1, 3));
        rack.write(0, 0, 0);
        rack.read(0, 0);
        due.is("outs(0)", 0x030201L, () -> rack.outs(0));
    }
}
