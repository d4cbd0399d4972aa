import java.util.ArrayList;
import java.util.Arrays;
import java.util.HashMap;
import java.util.HashSet;
import java.util.List;
import java.util.Map;
import java.util.PriorityQueue;
import java.util.Set;

/**
 * The document's words again, by other means than the program's and without care for speed: states
 * are played anew from their presses, and searches try all there is.
 */
final class SlowModel implements Face {
    private static final int NONE = -1;
    private static final int[][] WAYS = {{0, 0}, {0, -1}, {1, 0}, {0, 1}, {-1, 0}};

    private int[][] kinds = new int[2][2];
    private List<int[]> round = new ArrayList<>();
    private int[] start = {0, 0};
    private List<Integer> presses = new ArrayList<>();
    private final Map<Integer, List<Integer>> kept = new HashMap<>();
    private List<Integer> latestRow = new ArrayList<>();
    private final List<Integer> claim = new ArrayList<>();
    private final List<int[]> splits = new ArrayList<>();
    private final List<int[]> roads = new ArrayList<>();
    private final Set<Integer> barred = new HashSet<>();
    private int[] goal = {0, 0};
    private int price = 0;

    /** A runner in the game at a tick; how: 0 goes on, 1 caught, 2 ended. */
    private record At(int x, int y, int keys, int tick, int how) {
    }

    private static boolean within(int value, int low, int high) {
        return low <= value && value <= high;
    }

    private int width() {
        return kinds[0].length;
    }

    private int height() {
        return kinds.length;
    }

    private boolean isCell(int x, int y) {
        return within(x, 0, width() - 1) && within(y, 0, height() - 1);
    }

    private int[] foeAt(int tick) {
        return round.get(tick % round.size());
    }

    private At first() {
        return new At(start[0], start[1], 0, 0, 0);
    }

    private At tick(At at, int press) {
        int x = at.x + WAYS[press][0];
        int y = at.y + WAYS[press][1];
        boolean goes = isCell(x, y) && kinds[y][x] != 1;
        if (goes && within(kinds[y][x], 5, 7)) {
            goes = (at.keys & (1 << (kinds[y][x] - 5))) != 0;
        }
        if (!goes) {
            x = at.x;
            y = at.y;
        }
        if (!round.isEmpty()) {
            int[] was = foeAt(at.tick);
            int[] is = foeAt(at.tick + 1);
            boolean together = is[0] == x && is[1] == y;
            boolean wereTogether = was[0] == at.x && was[1] == at.y;
            boolean changed = was[0] == x && was[1] == y && is[0] == at.x && is[1] == at.y;
            if (together || (changed && !wereTogether)) {
                return new At(x, y, at.keys, at.tick + 1, 1);
            }
        }
        int kind = kinds[y][x];
        int keys = within(kind, 2, 4) ? at.keys | (1 << (kind - 2)) : at.keys;
        return new At(x, y, keys, at.tick + 1, kind == 8 ? 2 : 0);
    }

    private At now() {
        At at = first();
        for (int press : presses) {
            at = tick(at, press);
        }
        return at;
    }

    private boolean told() {
        kept.clear();
        presses = new ArrayList<>();
        return true;
    }

    @Override
    public boolean board(int w, int h) {
        if (!within(w, 2, 8) || !within(h, 2, 8)) {
            return false;
        }
        kinds = new int[h][w];
        round = new ArrayList<>();
        start = new int[] {0, 0};
        splits.clear();
        claim.clear();
        return told();
    }

    @Override
    public boolean cell(int x, int y, int kind) {
        if (!isCell(x, y) || !within(kind, 0, 8)) {
            return false;
        }
        kinds[y][x] = kind;
        return told();
    }

    @Override
    public boolean foe(int x, int y) {
        if (!isCell(x, y) || round.size() == 6) {
            return false;
        }
        round.add(new int[] {x, y});
        return told();
    }

    @Override
    public boolean start(int x, int y) {
        if (!isCell(x, y)) {
            return false;
        }
        start = new int[] {x, y};
        return told();
    }

    @Override
    public int press(int press) {
        if (!within(press, 0, 4) || now().how != 0 || presses.size() == 500) {
            return NONE;
        }
        presses.add(press);
        return now().how;
    }

    @Override
    public int state(int what) {
        At at = now();
        int[] foe = round.isEmpty() ? new int[] {NONE, NONE} : foeAt(at.tick);
        int[] answers = {at.x, at.y, at.keys, at.tick, at.how, foe[0], foe[1]};
        return within(what, 0, 6) ? answers[what] : NONE;
    }

    @Override
    public boolean save(int place) {
        if (!within(place, 0, 3)) {
            return false;
        }
        kept.put(place, new ArrayList<>(presses));
        return true;
    }

    @Override
    public boolean back(int place) {
        if (!kept.containsKey(place)) {
            return false;
        }
        presses = new ArrayList<>(kept.get(place));
        return true;
    }

    @Override
    public void begin() {
        presses = new ArrayList<>();
    }

    /** The same with the tick counted by the round alone: what can follow is the same. */
    private At folded(At at) {
        return new At(at.x, at.y, at.keys, round.isEmpty() ? 0 : at.tick % round.size(), at.how);
    }

    /** By ticks to the end, worked out from the end back; then the first press that is one nearer. */
    @Override
    public int least() {
        latestRow = new ArrayList<>();
        At at = now();
        if (at.how != 0) {
            return at.how == 2 ? 0 : NONE;
        }
        Map<At, Integer> toEnd = ticksToEnd(folded(at));
        if (!toEnd.containsKey(folded(at))) {
            return NONE;
        }
        At here = folded(at);
        while (here.how == 0) {
            for (int press = 0; press < 5; press++) {
                At next = folded(tick(here, press));
                if (toEnd.containsKey(next) && toEnd.get(next) == toEnd.get(here) - 1) {
                    latestRow.add(press);
                    here = next;
                    break;
                }
            }
        }
        return latestRow.size();
    }

    private Map<At, Integer> ticksToEnd(At from) {
        List<At> reached = new ArrayList<>(List.of(from));
        Set<At> seen = new HashSet<>(reached);
        for (int i = 0; i < reached.size(); i++) {
            for (int press = 0; press < 5 && reached.get(i).how == 0; press++) {
                At next = folded(tick(reached.get(i), press));
                if (seen.add(next)) {
                    reached.add(next);
                }
            }
        }
        Map<At, Integer> toEnd = new HashMap<>();
        for (At at : reached) {
            if (at.how == 2) {
                toEnd.put(at, 0);
            }
        }
        boolean more = !toEnd.isEmpty();
        for (int ticks = 1; more; ticks++) {
            List<At> nearer = new ArrayList<>();
            for (At at : reached) {
                for (int press = 0; press < 5 && at.how == 0 && !toEnd.containsKey(at); press++) {
                    At next = folded(tick(at, press));
                    if (toEnd.containsKey(next)) {
                        nearer.add(at);
                        break;
                    }
                }
            }
            for (At at : nearer) {
                toEnd.put(at, ticks);
            }
            more = !nearer.isEmpty();
        }
        return toEnd;
    }

    @Override
    public int best(int k) {
        return within(k, 0, latestRow.size() - 1) ? latestRow.get(k) : NONE;
    }

    @Override
    public int claim(int press) {
        if (!within(press, 0, 4) || claim.size() == 400) {
            return NONE;
        }
        claim.add(press);
        return claim.size();
    }

    @Override
    public void unclaim() {
        claim.clear();
    }

    @Override
    public int prove(int ticks) {
        At at = first();
        int played = 0;
        while (played < claim.size() && at.how == 0) {
            at = tick(at, claim.get(played));
            played++;
        }
        if (at.how != 2) {
            return at.how == 1 ? 3 : 4;
        }
        return played < claim.size() ? 2 : at.tick == ticks ? 0 : 1;
    }

    @Override
    public int differs() {
        int both = Math.min(claim.size(), presses.size());
        for (int i = 0; i < both; i++) {
            if (!claim.get(i).equals(presses.get(i))) {
                return i + 1;
            }
        }
        return claim.size() == presses.size() ? NONE : both + 1;
    }

    @Override
    public int split(int x, int y, int a, int b) {
        if (!isCell(x, y) || !within(a, 0, 200) || !within(b, 0, 200) || a > b || splits.size() == 5) {
            return NONE;
        }
        splits.add(new int[] {x, y, a, b});
        return splits.size();
    }

    @Override
    public void unsplit() {
        splits.clear();
    }

    /** A runner, and how many splits it counts as done: one that it could count it also may leave. */
    private record Seen(At at, int done) {
    }

    @Override
    public int could() {
        int most = 0;
        Set<Seen> layer = new HashSet<>();
        addSeen(layer, first(), 0);
        for (int tick = 0; tick <= 200; tick++) {
            Set<Seen> next = new HashSet<>();
            for (Seen seen : layer) {
                most = Math.max(most, seen.done);
                for (int press = 0; press < 5 && seen.at.how == 0; press++) {
                    addSeen(next, tick(seen.at, press), seen.done);
                }
            }
            layer = next;
        }
        return most;
    }

    private void addSeen(Set<Seen> layer, At at, int done) {
        if (at.how == 1) {
            return;
        }
        layer.add(new Seen(at, done));
        if (done < splits.size()) {
            int[] s = splits.get(done);
            if (s[0] == at.x && s[1] == at.y && within(at.tick, s[2], s[3])) {
                addSeen(layer, at, done + 1);
            }
        }
    }

    @Override
    public int road(int from, int to, int needs, int gives, int ticks, int odds, int failRoom, int failTicks) {
        int[] r = {from, to, needs, gives, ticks, odds, failRoom, failTicks};
        boolean can = within(r[0], 0, 9) && within(r[1], 0, 9) && within(r[2], 0, 15) && within(r[3], 0, 15)
            && within(r[4], 1, 100) && within(r[5], 1, 8);
        boolean canFail = r[5] != 8;
        if (!can || (canFail && !(within(r[6], 0, 9) && within(r[7], 1, 100))) || roads.size() == 40) {
            return NONE;
        }
        roads.add(r);
        return roads.size() - 1;
    }

    @Override
    public boolean bar(int road, boolean on) {
        if (!within(road, 0, roads.size() - 1)) {
            return false;
        }
        if (on) {
            barred.add(road);
        } else {
            barred.remove(road);
        }
        return true;
    }

    @Override
    public boolean goal(int room, int things) {
        if (!within(room, 0, 9) || !within(things, 0, 15)) {
            return false;
        }
        goal = new int[] {room, things};
        return true;
    }

    @Override
    public boolean anew(int newPrice) {
        if (!within(newPrice, 0, 100)) {
            return false;
        }
        price = newPrice;
        return true;
    }

    private boolean met(int room, int things) {
        return room == goal[0] && (goal[1] & ~things) == 0;
    }

    private boolean open(int road, int room, int things) {
        int[] r = roads.get(road);
        return !barred.contains(road) && r[0] == room && (r[2] & ~things) == 0;
    }

    @Override
    public int sure() {
        PriorityQueue<int[]> queue = new PriorityQueue<>((p, q) -> Integer.compare(p[0], q[0]));
        Set<Integer> settled = new HashSet<>();
        queue.add(new int[] {0, 0, 0});
        while (!queue.isEmpty()) {
            int[] top = queue.remove();
            if (met(top[1], top[2])) {
                return top[0];
            }
            if (!settled.add(top[1] * 16 + top[2])) {
                continue;
            }
            for (int i = 0; i < roads.size(); i++) {
                int[] r = roads.get(i);
                if (r[5] == 8 && open(i, top[1], top[2])) {
                    queue.add(new int[] {top[0] + r[4], r[1], top[2] | r[3]});
                }
            }
        }
        return NONE;
    }

    private boolean asked(int room, int things, int left) {
        return within(room, 0, 9) && within(things, 0, 15) && within(left, 0, 300);
    }

    @Override
    public long chance(int room, int things, int left) {
        return asked(room, things, left) ? chanceOf(room, things, left, new HashMap<>()) : NONE;
    }

    private long chanceOf(int room, int things, int left, Map<List<Integer>, Long> known) {
        if (left < 0) {
            return 0;
        }
        if (met(room, things)) {
            return 1L << 30;
        }
        List<Integer> key = Arrays.asList(room, things, left);
        if (!known.containsKey(key)) {
            long most = price == 0 ? 0 : chanceOf(0, 0, left - price, known);
            for (int i = 0; i < roads.size(); i++) {
                if (open(i, room, things)) {
                    most = Math.max(most, chanceBy(i, things, left, known));
                }
            }
            known.put(key, most);
        }
        return known.get(key);
    }

    private long chanceBy(int road, int things, int left, Map<List<Integer>, Long> known) {
        int[] r = roads.get(road);
        long eighths = r[5] * chanceOf(r[1], things | r[3], left - r[4], known);
        if (r[5] < 8) {
            eighths += (8 - r[5]) * chanceOf(r[6], things, left - r[7], known);
        }
        return eighths / 8;
    }

    @Override
    public int choice(int room, int things, int left) {
        if (!asked(room, things, left)) {
            return -3;
        }
        Map<List<Integer>, Long> known = new HashMap<>();
        if (met(room, things) || chanceOf(room, things, left, known) == 0) {
            return NONE;
        }
        long most = 0;
        int chosen = NONE;
        for (int i = 0; i < roads.size(); i++) {
            if (open(i, room, things) && chanceBy(i, things, left, known) > most) {
                most = chanceBy(i, things, left, known);
                chosen = i;
            }
        }
        return price != 0 && chanceOf(0, 0, left - price, known) > most ? -2 : chosen;
    }

    @Override
    public int count(int what) {
        int[] counts = {width(), height(), round.size(), claim.size(), splits.size(), roads.size()};
        return within(what, 0, 5) ? counts[what] : NONE;
    }
}
