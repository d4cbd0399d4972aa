import java.util.ArrayList;
import java.util.List;

/** Values at and beyond the edges, and calls that many edge tests make. */
final class Edges {
    static final int NONE = FastestRun.NONE;
    static final long ALL = 1L << 30;

    private Edges() {
    }

    /**
     * The first values below low and above high, and far ones: those that a cut to fewer bits, or a
     * product that wraps around, would bring back among the allowed ones too.
     */
    static int[] outside(int low, int high) {
        int[] tried = {
            low - 1, high + 1, low - 2, high + 2, -low - 1, -high - 1, low + (1 << 8), low + (1 << 16), low + (1 << 28),
            low + (1 << 29), low + (1 << 30), high - (1 << 29), low - (1 << 16), low - (1 << 8),
            Integer.MIN_VALUE, Integer.MIN_VALUE + low, Integer.MAX_VALUE};
        List<Integer> values = new ArrayList<>();
        for (int value : tried) {
            if (value < low || value > high) {
                values.add(value);
            }
        }
        return values.stream().mapToInt(Integer::intValue).toArray();
    }

    static void dueState(String when, Desk f, int x, int y, int keys, int tick, int how) {
        int[] want = {x, y, keys, tick, how};
        for (int what = 0; what < want.length; what++) {
            Check.due(when + ": state(" + what + ")", f.state(what), want[what]);
        }
    }

    static void dueFoe(String when, Desk f, int x, int y) {
        Check.due(when + ": state(5)", f.state(5), x);
        Check.due(when + ": state(6)", f.state(6), y);
    }

    static void duePresses(String when, Desk f, int want, int... presses) {
        for (int press : presses) {
            Check.due(when + ": press(" + press + ")", f.press(press), want);
        }
    }

    static void dueRow(String when, Desk f, int... row) {
        for (int k = 0; k < row.length; k++) {
            Check.due(when + ": best(" + k + ")", f.best(k), row[k]);
        }
        Check.due(when + ": best(" + row.length + ")", f.best(row.length), NONE);
    }

    static void idle(Desk f, int ticks) {
        for (int i = 0; i < ticks; i++) {
            f.press(0);
        }
    }

    static void claimAll(Desk f, int... presses) {
        for (int press : presses) {
            f.claim(press);
        }
    }

    static void claimWaits(Desk f, int ticks) {
        for (int i = 0; i < ticks; i++) {
            f.claim(0);
        }
    }
}
