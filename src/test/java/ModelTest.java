import java.util.Random;

/** Runs of 512 calls, always the same ones, beside PlainRack: the answers are the same. */
public final class ModelTest {
    private static final int RUNS = 1000;
    private static final int CALLS = 512;

    private final Random random;
    private final CellRack rack = new CellRack();
    private final PlainRack plain = new PlainRack();
    private final int run;
    private final int disks;
    private final int cells;
    // The corruption before this one, so that it is often taken back.
    private int[] turned = {0, 0, 0, 1};
    private long turnedBy = 0;
    private int wrong = 0;

    private ModelTest(int run) {
        this.run = run;
        random = new Random(run);
        disks = 1 + random.nextInt(run % 3 == 0 ? 16 : 3);
        cells = 1 + random.nextInt(run % 3 == 0 ? 66 : 3);
    }

    public static void main(String[] args) {
        int wrongRuns = 0;
        for (int run = 0; run < RUNS && wrongRuns < 3; run++) {
            ModelTest test = new ModelTest(run);
            for (int i = 0; i < CALLS && test.wrong == 0; i++) {
                test.call(i);
            }
            wrongRuns += test.wrong;
        }
        System.out.println(wrongRuns == 0 ? RUNS + " runs are as due" : "runs are not as due");
        if (wrongRuns != 0) {
            System.exit(1);
        }
    }

    private void same(int i, String told, Due.Call got, Due.Call want) {
        Object answer = Due.answerOf(got);
        Object wanted = Due.answerOf(want);
        if (!answer.equals(wanted)) {
            wrong = 1;
            System.out.println("run " + run + ", call " + i + ": " + told + " answered " + answer + ", due is " + wanted);
        }
    }

    /** Mostly 0 .. bound - 1, now and then an edge or something wild. */
    private int near(int used, int bound) {
        return switch (random.nextInt(60)) {
            case 0 -> -1;
            case 1 -> bound;
            case 2 -> bound - 1;
            case 3 -> random.nextInt();
            case 4 -> random.nextBoolean() ? Integer.MAX_VALUE : Integer.MIN_VALUE;
            default -> random.nextInt(used);
        };
    }

    private void call(int i) {
        int d = near(disks, 16);
        int c = near(cells, 66);
        int kind = random.nextInt(100);
        if (kind < 15) {
            int n = random.nextInt(20) == 0 ? near(8, 10) : 1 + random.nextInt(8);
            long v = random.nextLong();
            same(i, "feed(" + n + ", " + v + ")", () -> rack.feed(n, v), () -> plain.feed(n, v));
        } else if (kind < 35) {
            int tag = near(65536, 65536);
            same(i, "write(" + d + ", " + c + ", " + tag + ")", () -> rack.write(d, c, tag), () -> plain.write(d, c, tag));
        } else if (kind < 41) {
            same(i, "read(" + d + ", " + c + ")", () -> rack.read(d, c), () -> plain.read(d, c));
        } else if (kind < 47) {
            int k = near(64, 64);
            same(i, "outs(" + k + ")", () -> rack.outs(k), () -> plain.outs(k));
        } else if (kind < 51) {
            same(i, "tag(" + d + ", " + c + ")", () -> rack.tag(d, c), () -> plain.tag(d, c));
        } else if (kind < 55) {
            same(i, "cell(" + d + ", " + c + ")", () -> rack.cell(d, c), () -> plain.cell(d, c));
        } else if (kind < 61) {
            int k = near(70, 70);
            same(i, "at(" + d + ", " + c + ", " + k + ")", () -> rack.at(d, c, k), () -> plain.at(d, c, k));
        } else if (kind < 63) {
            same(i, "fail(" + d + ")", () -> rack.fail(d), () -> plain.fail(d));
        } else if (kind < 66) {
            same(i, "replace(" + d + ")", () -> rack.replace(d), () -> plain.replace(d));
        } else if (kind < 86) {
            corrupt(i, d, c);
        } else if (kind < 88) {
            int n = near(30, 30);
            same(i, "lose(" + n + ")", () -> said(() -> rack.lose(n)), () -> said(() -> plain.lose(n)));
        } else if (kind < 90) {
            same(i, "power()", rack::power, plain::power);
        } else {
            int what = near(6, 6);
            same(i, "look(" + what + ")", () -> rack.look(what), () -> plain.look(what));
        }
    }

    private static String said(Runnable call) {
        call.run();
        return "said";
    }

    private void corrupt(int i, int d, int c) {
        int kind = random.nextInt(10);
        if (kind < 4) {
            turned = new int[] {d, c, near(70, 70), near(8, 8) + 1};
            turnedBy = random.nextLong() & (random.nextInt(6) == 0 ? 0 : -1L);
        } else if (kind < 6 && plain.look(3) == 16 && 0 <= d && d < 16 && 0 <= c && c < 66 && plain.cell(d, c) > 1) {
            forge(d, c);
        }
        int[] t = turned;
        long mask = turnedBy;
        same(i, "corrupt(" + t[0] + ", " + t[1] + ", " + t[2] + ", " + mask + ", " + t[3] + ")",
            () -> rack.corrupt(t[0], t[1], t[2], mask, t[3]), () -> plain.corrupt(t[0], t[1], t[2], mask, t[3]));
    }

    /** A mask with which the cell has the check of its bytes, the tag being another one or the same. */
    private void forge(int d, int c) {
        byte[] bytes = new byte[70];
        for (int k = 0; k < 70; k++) {
            bytes[k] = (byte) plain.at(d, c, k);
        }
        int turn = random.nextInt(4) == 0 ? 0 : random.nextInt(65536);
        bytes[64] ^= (byte) turn;
        bytes[65] ^= (byte) (turn >> 8);
        long check = 0;
        for (int k = 69; k >= 66; k--) {
            check = check << 8 | bytes[k] & 255;
        }
        turned = new int[] {d, c, 64, 6};
        turnedBy = turn | (check ^ Due.check(bytes, 66)) << 16;
    }
}
