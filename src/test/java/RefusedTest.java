import java.util.ArrayList;
import java.util.List;
import java.util.NoSuchElementException;

/** What the section 'Terms' says of calls that throw. */
public final class RefusedTest {
    private interface Wrong {
        Object on(CellRack rack);
    }

    private record Told(String told, Class<? extends RuntimeException> want, Wrong call) {
    }

    private static final Class<IllegalArgumentException> ARGUMENT = IllegalArgumentException.class;
    private static final Class<IllegalStateException> STATE = IllegalStateException.class;
    private static final Class<NoSuchElementException> ELEMENT = NoSuchElementException.class;

    public static void main(String[] args) {
        Due due = new Due();
        theOneListedFirstIsThrown(due);
        aCallThatThrowsChangesNothing(due);
        due.end();
    }

    /** "Of several exceptions that hold the one listed first is thrown" */
    private static void theOneListedFirstIsThrown(Due due) {
        CellRack rack = full(true);
        due.refused("feed: n, and a full tape", ARGUMENT, () -> rack.feed(0, 1));
        due.refused("feed: n, and a full tape", ARGUMENT, () -> rack.feed(9, 1));
        due.refused("feed: a full tape", STATE, () -> rack.feed(1, 1));
        due.refused("write: cell, and disk not live", ARGUMENT, () -> rack.write(2, 66, 0));
        due.refused("write: tag, and disk not live", ARGUMENT, () -> rack.write(2, 0, 65536));
        due.refused("write: tag, and disk not live", ARGUMENT, () -> rack.write(2, 0, -1));
        due.refused("write: disk not live", STATE, () -> rack.write(2, 0, 0));
        due.refused("at: cell, and disk not live", ARGUMENT, () -> rack.at(2, 66, 0));
        due.refused("at: cell, and byte", ARGUMENT, () -> rack.at(1, -1, 70));
        due.refused("at: disk, and byte", ARGUMENT, () -> rack.at(16, 0, -1));
        due.refused("at: byte", ELEMENT, () -> rack.at(1, 1, 70));
        due.refused("lose: n, and power off", ARGUMENT, () -> Due.lost(rack, 0));
        due.refused("lose: power off", STATE, () -> Due.lost(rack, 1));
    }

    /** "a call that throws changes nothing" */
    private static void aCallThatThrowsChangesNothing(Due due) {
        for (Told t : allThatThrow()) {
            for (int i = 0; i < 2; i++) {
                boolean off = i == 1;
                CellRack rack = full(off);
                due.refused(t.told, t.want, () -> t.call.on(rack));
                List<Object> seen = view(rack);
                due.is("all that is seen behind " + t.told, view(full(off)), () -> seen);
            }
        }
        CellRack rack = full(true);
        due.refused("lose(9), power off", STATE, () -> Due.lost(rack, 9));
        due.is("all that is seen behind lose(9)", view(full(true)), () -> view(rack));
    }

    /** Every kind of cell, a full tape, a full OUT, and the power off or about to be lost. */
    private static CellRack full(boolean off) {
        CellRack rack = new CellRack();
        rack.feed(8, 0x0102030405060708L);
        rack.write(1, 1, 258);
        rack.feed(8, -2L);
        rack.write(0, 0, 1);
        rack.corrupt(0, 0, 5, 3, 1);
        rack.write(2, 0, 4);
        rack.fail(2);
        rack.read(1, 1);
        rack.lose(1);
        if (off) {
            rack.write(15, 65, 5);
        }
        for (int i = 1; i <= 8; i++) {
            rack.feed(8, 0x0101010101010101L * i);
        }
        return rack;
    }

    private static List<Told> allThatThrow() {
        List<Told> all = new ArrayList<>();
        for (int[] at : Due.NO_CELLS) {
            int d = at[0];
            int c = at[1];
            String told = "(" + d + ", " + c + ", ..)";
            all.add(new Told("write" + told, ARGUMENT, r -> r.write(d, c, 7)));
            all.add(new Told("read" + told, ARGUMENT, r -> r.read(d, c)));
            all.add(new Told("tag" + told, ARGUMENT, r -> r.tag(d, c)));
            all.add(new Told("cell" + told, ARGUMENT, r -> r.cell(d, c)));
            all.add(new Told("at" + told, ARGUMENT, r -> r.at(d, c, 0)));
            all.add(new Told("corrupt" + told, ARGUMENT, r -> r.corrupt(d, c, 0, 1, 1)));
        }
        for (int disk : Due.NO_DISKS) {
            all.add(new Told("fail(" + disk + ")", ARGUMENT, r -> r.fail(disk)));
            all.add(new Told("replace(" + disk + ")", ARGUMENT, r -> r.replace(disk)));
        }
        int[] noCounts = {0, -1, 9, Integer.MIN_VALUE, Integer.MAX_VALUE};
        for (int n : noCounts) {
            all.add(new Told("feed(" + n + ", 1)", ARGUMENT, r -> r.feed(n, 1)));
            all.add(new Told("corrupt(1, 1, 0, 1, " + n + ")", ARGUMENT, r -> r.corrupt(1, 1, 0, 1, n)));
        }
        int[] noPlaces = {-1, 63, 70, Integer.MIN_VALUE, Integer.MAX_VALUE};
        for (int place : noPlaces) {
            all.add(new Told("corrupt(1, 1, " + place + ", 1, 8)", ARGUMENT, r -> r.corrupt(1, 1, place, 1, 8)));
        }
        all.add(new Told("feed(1, 1)", STATE, r -> r.feed(1, 1)));
        all.add(new Told("feed(8, 1)", STATE, r -> r.feed(8, 1)));
        all.add(new Told("write(1, 1, -1)", ARGUMENT, r -> r.write(1, 1, -1)));
        all.add(new Told("write(1, 1, 65536)", ARGUMENT, r -> r.write(1, 1, 65536)));
        all.add(new Told("write(2, 0, 0)", STATE, r -> r.write(2, 0, 0)));
        all.add(new Told("outs(-1)", ELEMENT, r -> r.outs(-1)));
        all.add(new Told("outs(64)", ELEMENT, r -> r.outs(64)));
        all.add(new Told("at(1, 1, -1)", ELEMENT, r -> r.at(1, 1, -1)));
        all.add(new Told("at(1, 1, 70)", ELEMENT, r -> r.at(1, 1, 70)));
        all.add(new Told("at(2, 0, 0)", ELEMENT, r -> r.at(2, 0, 0)));
        all.add(new Told("at(3, 0, 0)", ELEMENT, r -> r.at(3, 0, 0)));
        all.add(new Told("lose(0)", ARGUMENT, r -> Due.lost(r, 0)));
        all.add(new Told("lose(-1)", ARGUMENT, r -> Due.lost(r, -1)));
        all.add(new Told("look(-1)", ELEMENT, r -> r.look(-1)));
        all.add(new Told("look(6)", ELEMENT, r -> r.look(6)));
        return all;
    }

    /** All that can be asked of the rack; the tape is seen last, as it has to be written for that. */
    private static List<Object> view(CellRack rack) {
        List<Object> seen = new ArrayList<>();
        for (int what = 0; what < 6; what++) {
            seen.add(rack.look(what));
        }
        for (int k = 0; k < 64; k += 8) {
            seen.add(rack.outs(k));
        }
        for (int disk = 0; disk < 16; disk++) {
            for (int cell = 0; cell < 3; cell++) {
                seen.add(rack.cell(disk, cell));
            }
            seen.add(rack.cell(disk, 65));
        }
        addBytes(seen, rack, 1, 1);
        addBytes(seen, rack, 0, 0);
        seen.add(Due.answerOf(() -> rack.feed(1, 1)));
        seen.add(rack.power());
        seen.add(rack.write(9, 9, 9));
        addBytes(seen, rack, 9, 9);
        return seen;
    }

    private static void addBytes(List<Object> seen, CellRack rack, int disk, int cell) {
        seen.add(rack.tag(disk, cell));
        for (int k = 0; k < 70; k++) {
            seen.add(rack.at(disk, cell, k));
        }
    }
}
