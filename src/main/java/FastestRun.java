import java.util.Arrays;

/** A desk for those who finish games as fast as can be; DOC.md numbers its promises. */
public final class FastestRun {
    public static final int NONE = -1;

    private static final int GOES_ON = 0;
    private static final int CAUGHT = 1;
    private static final int ENDED = 2;

    private static final int PRESS_KINDS = 5;
    private static final int MOST_PRESSES = 500;
    private static final int MOST_CLAIMED = 400;
    private static final int PLACES = 4;

    private static final int NO_SUCH_CHOICE = -3;

    private final Game game;
    private final Run run;
    private final Run[] kept;
    private final boolean[] isKept;
    private final Search search;
    private final Row claimed;
    private final Splits splits;
    private final RoadMap roads;

    public FastestRun() {
        game = new Game();
        run = new Run();
        kept = new Run[PLACES];
        for (int i = 0; i < PLACES; i++) {
            kept[i] = new Run();
        }
        isKept = new boolean[PLACES];
        search = new Search();
        claimed = new Row(MOST_CLAIMED);
        splits = new Splits();
        roads = new RoadMap();
    }

    public boolean board(int w, int h) {
        if (!Game.isSize(w) || !Game.isSize(h)) {
            return false;
        }
        game.lay(w, h);
        splits.clear();
        claimed.clear();
        beginInChangedGame();
        return true;
    }

    public boolean cell(int x, int y, int kind) {
        if (!game.has(x, y) || !Game.isKind(kind)) {
            return false;
        }
        game.setKind(Game.cellAt(x, y), kind);
        beginInChangedGame();
        return true;
    }

    public boolean foe(int x, int y) {
        if (!game.has(x, y) || !game.lengthenRound(Game.cellAt(x, y))) {
            return false;
        }
        beginInChangedGame();
        return true;
    }

    public boolean start(int x, int y) {
        if (!game.has(x, y)) {
            return false;
        }
        game.startCell = Game.cellAt(x, y);
        beginInChangedGame();
        return true;
    }

    public int press(int press) {
        if (!isPress(press) || run.outcome != GOES_ON) {
            return NONE;
        }
        int tick = run.presses.length;
        if (!run.presses.add(press)) {
            return NONE;
        }
        int after = game.after(run.spot, tick, press);
        run.spot = Game.spotOf(after);
        run.outcome = Game.outcomeOf(after);
        return run.outcome;
    }

    public int state(int what) {
        int tick = run.presses.length;
        int runnerCell = Game.cellOf(run.spot);
        int foeCell = game.foeCell(tick);
        switch (what) {
            case 0:
                return Game.xOf(runnerCell);
            case 1:
                return Game.yOf(runnerCell);
            case 2:
                return Game.keysOf(run.spot);
            case 3:
                return tick;
            case 4:
                return run.outcome;
            case 5:
                return foeCell == NONE ? NONE : Game.xOf(foeCell);
            case 6:
                return foeCell == NONE ? NONE : Game.yOf(foeCell);
            default:
                return NONE;
        }
    }

    public boolean save(int place) {
        if (!isPlace(place)) {
            return false;
        }
        kept[place].takeFrom(run);
        isKept[place] = true;
        return true;
    }

    public boolean back(int place) {
        if (!isPlace(place) || !isKept[place]) {
            return false;
        }
        run.takeFrom(kept[place]);
        return true;
    }

    public void begin() {
        run.restart(game.startSpot());
    }

    public int least() {
        search.row.clear();
        if (run.outcome == CAUGHT) {
            return NONE;
        }
        if (run.outcome == ENDED) {
            return 0;
        }
        boolean found = search.find(game, run.spot, run.presses.length);
        return found ? search.row.length : NONE;
    }

    public int best(int k) {
        return search.row.at(k);
    }

    public int claim(int press) {
        if (!isPress(press) || !claimed.add(press)) {
            return NONE;
        }
        return claimed.length;
    }

    public void unclaim() {
        claimed.clear();
    }

    public int prove(int ticks) {
        int spot = game.startSpot();
        int last = claimed.length;
        for (int tick = 0; tick < last; tick++) {
            int after = game.after(spot, tick, claimed.at(tick));
            int outcome = Game.outcomeOf(after);
            if (outcome == CAUGHT) {
                return 3;
            }
            if (outcome == ENDED && tick + 1 < last) {
                return 2;
            }
            if (outcome == ENDED) {
                return ticks == last ? 0 : 1;
            }
            spot = Game.spotOf(after);
        }
        return 4;
    }

    public int differs() {
        int place = claimed.firstUnlike(run.presses);
        return place == NONE ? NONE : place + 1;
    }

    public int split(int x, int y, int a, int b) {
        if (!game.has(x, y) || !splits.add(Game.cellAt(x, y), a, b)) {
            return NONE;
        }
        return splits.length;
    }

    public void unsplit() {
        splits.clear();
    }

    public int could() {
        return splits.mostTogether(game);
    }

    public int road(int from, int to, int needs, int gives, int ticks, int odds, int failRoom, int failTicks) {
        if (roads.isFull() || !RoadMap.isWay(from, to, needs, gives)) {
            return NONE;
        }
        if (!RoadMap.isTicks(ticks) || !RoadMap.isOdds(odds)) {
            return NONE;
        }
        boolean canFail = odds < RoadMap.SURE;
        if (canFail && !(RoadMap.isRoom(failRoom) && RoadMap.isTicks(failTicks))) {
            return NONE;
        }
        Road next = roads.roads[roads.length];
        next.lead(from, to, needs, gives);
        next.succeed(ticks, odds);
        // A sure road takes any failing, so what is told must not be kept as an index.
        next.fail(canFail ? failRoom : 0, canFail ? failTicks : 1);
        return roads.openNext();
    }

    public boolean bar(int road, boolean on) {
        if (!roads.hasRoad(road)) {
            return false;
        }
        roads.roads[road].barred = on;
        roads.forgetChances();
        return true;
    }

    public boolean goal(int room, int things) {
        if (!RoadMap.isRoom(room) || !RoadMap.isThings(things)) {
            return false;
        }
        roads.goalRoom = room;
        roads.goalThings = things;
        roads.forgetChances();
        return true;
    }

    public boolean anew(int price) {
        if (price != 0 && !RoadMap.isTicks(price)) {
            return false;
        }
        roads.anewPrice = price;
        roads.forgetChances();
        return true;
    }

    public int sure() {
        return roads.fewestSureTicks();
    }

    public long chance(int room, int things, int left) {
        if (!RoadMap.isAsked(room, things, left)) {
            return NONE;
        }
        return roads.greatest(room, things, left);
    }

    public int choice(int room, int things, int left) {
        if (!RoadMap.isAsked(room, things, left)) {
            return NO_SUCH_CHOICE;
        }
        return roads.chosen(room, things, left);
    }

    public int count(int what) {
        switch (what) {
            case 0:
                return game.width;
            case 1:
                return game.height;
            case 2:
                return game.roundLength;
            case 3:
                return claimed.length;
            case 4:
                return splits.length;
            case 5:
                return roads.length;
            default:
                return NONE;
        }
    }

    /** A state kept in the game as it was could be impossible in the changed one. */
    private void beginInChangedGame() {
        for (int i = 0; i < PLACES; i++) {
            isKept[i] = false;
        }
        run.restart(game.startSpot());
    }

    private static boolean isPress(int press) {
        return press >= 0 && press < PRESS_KINDS;
    }

    private static boolean isPlace(int place) {
        return place >= 0 && place < PLACES;
    }

    /** Presses in order, up to a limit. */
    private static final class Row {
        private final int[] presses;
        private int length;

        Row(int limit) {
            presses = new int[Math.max(limit, 0)];
        }

        void clear() {
            length = 0;
        }

        boolean add(int press) {
            if (length >= presses.length) {
                return false;
            }
            presses[length] = press;
            length++;
            return true;
        }

        int at(int k) {
            return k >= 0 && k < length ? presses[k] : NONE;
        }

        void takeFrom(Row other) {
            length = Math.min(other.length, presses.length);
            System.arraycopy(other.presses, 0, presses, 0, length);
        }

        void reverse() {
            for (int low = 0, high = length - 1; low < high; low++, high--) {
                int press = presses[low];
                presses[low] = presses[high];
                presses[high] = press;
            }
        }

        int firstUnlike(Row other) {
            int longer = Math.max(length, other.length);
            for (int k = 0; k < longer; k++) {
                if (at(k) != other.at(k)) {
                    return k;
                }
            }
            return NONE;
        }
    }

    /**
     * The state of a run. Its tick is the number of its presses, and the foe's place in the round
     * follows from the tick, so neither is held a second time.
     */
    private static final class Run {
        private final Row presses = new Row(MOST_PRESSES);
        private int spot;
        private int outcome;

        void restart(int startSpot) {
            presses.clear();
            spot = startSpot;
            outcome = GOES_ON;
        }

        void takeFrom(Run other) {
            presses.takeFrom(other.presses);
            spot = other.spot;
            outcome = other.outcome;
        }
    }

    /**
     * The board, the foe's round and the beginning. A spot is a cell and the keys in one number, so
     * that searches can use it as an index; what a tick leads to is a spot and an outcome in one.
     * The board has 64 cells at most, so a set of them is the bits of a long.
     */
    private static final class Game {
        private static final int LEAST_SIZE = 2;
        private static final int MOST_SIZE = 8;
        private static final int CELLS = 64;
        private static final int SPOTS = 512;
        private static final int MOST_ROUND = 6;
        private static final int KEYS = 3;
        private static final int KEY_SETS = 8;

        private static final int FLOOR = 0;
        private static final int WALL = 1;
        private static final int FIRST_KEY = 2;
        private static final int FIRST_DOOR = 5;
        private static final int GOAL = 8;

        private static final int[] STEP_X = {0, 0, 1, 0, -1};
        private static final int[] STEP_Y = {0, -1, 0, 1, 0};

        private static final long FIRST_COLUMN = 0x0101010101010101L;
        private static final long LAST_COLUMN = FIRST_COLUMN << (MOST_SIZE - 1);

        private final int[] kinds = new int[CELLS];
        private final long[] openWith = new long[KEY_SETS];
        private final long[] keyCells = new long[KEYS];
        private long goalCells;
        private final int[] round = new int[MOST_ROUND];
        private int width;
        private int height;
        private int roundLength;
        private int startCell;

        Game() {
            lay(LEAST_SIZE, LEAST_SIZE);
        }

        static boolean isSize(int size) {
            return size >= LEAST_SIZE && size <= MOST_SIZE;
        }

        static boolean isKind(int kind) {
            return kind >= 0 && kind <= GOAL;
        }

        static int cellAt(int x, int y) {
            return y * MOST_SIZE + x;
        }

        static int xOf(int cell) {
            return cell % MOST_SIZE;
        }

        static int yOf(int cell) {
            return cell / MOST_SIZE;
        }

        static int cellOf(int spot) {
            return spot % CELLS;
        }

        static int keysOf(int spot) {
            return spot / CELLS;
        }

        static int spotOf(int after) {
            return after % SPOTS;
        }

        static int outcomeOf(int after) {
            return after / SPOTS;
        }

        void lay(int w, int h) {
            width = w;
            height = h;
            roundLength = 0;
            startCell = 0;
            Arrays.fill(kinds, FLOOR);
            Arrays.fill(openWith, allCells());
            Arrays.fill(keyCells, 0L);
            goalCells = 0L;
        }

        private long allCells() {
            long cells = 0L;
            for (int y = 0; y < height; y++) {
                for (int x = 0; x < width; x++) {
                    cells |= 1L << cellAt(x, y);
                }
            }
            return cells;
        }

        /** Keeps the sets of cells in step, so that no search has to gather them. */
        void setKind(int cell, int kind) {
            if (cell < 0 || cell >= CELLS) {
                return;
            }
            kinds[cell] = kind;
            for (int keys = 0; keys < KEY_SETS; keys++) {
                openWith[keys] = with(openWith[keys], cell, lets(kind, keys));
            }
            for (int key = 0; key < KEYS; key++) {
                keyCells[key] = with(keyCells[key], cell, kind == FIRST_KEY + key);
            }
            goalCells = with(goalCells, cell, kind == GOAL);
        }

        private static long with(long cells, int cell, boolean on) {
            long bit = 1L << cell;
            return on ? cells | bit : cells & ~bit;
        }

        boolean has(int x, int y) {
            return x >= 0 && x < width && y >= 0 && y < height;
        }

        boolean lengthenRound(int cell) {
            if (roundLength >= MOST_ROUND) {
                return false;
            }
            round[roundLength] = cell;
            roundLength++;
            return true;
        }

        int startSpot() {
            return startCell;
        }

        int foeCell(int tick) {
            return roundLength > 0 ? round[Math.floorMod(tick, roundLength)] : NONE;
        }

        /** What a press at this spot and tick leads to: see spotOf and outcomeOf. */
        int after(int spot, int tick, int press) {
            int from = cellOf(spot);
            int keys = keysOf(spot);
            int to = target(from, keys, press);
            int outcome = GOES_ON;
            if (meetsFoe(from, to, tick)) {
                outcome = CAUGHT;
            } else if (kinds[to] == GOAL) {
                outcome = ENDED;
            } else {
                keys |= keyIn(kinds[to]);
            }
            return outcome * SPOTS + keys * CELLS + to;
        }

        private int target(int from, int keys, int press) {
            if (!isPress(press)) {
                return from;
            }
            int x = xOf(from) + STEP_X[press];
            int y = yOf(from) + STEP_Y[press];
            if (!has(x, y)) {
                return from;
            }
            int to = cellAt(x, y);
            return lets(kinds[to], keys) ? to : from;
        }

        /** Where runners from these cells, all with the same keys, can be after the tick, uncaught. */
        long allAfter(long from, int keys, int tick) {
            if (roundLength == 0) {
                return from | allMoved(from, keys);
            }
            long foeBefore = 1L << foeCell(tick);
            long foeNow = 1L << foeCell(tick + 1);
            long aside = allMoved(from & ~foeNow, keys);
            long towards = allMoved(from & foeNow, keys) & ~foeBefore;
            return (from | aside | towards) & ~foeNow;
        }

        private long allMoved(long from, int keys) {
            if (keys < 0 || keys >= KEY_SETS) {
                return 0L;
            }
            long upAndDown = from >>> MOST_SIZE | from << MOST_SIZE;
            long rightAndLeft = (from & ~LAST_COLUMN) << 1 | (from & ~FIRST_COLUMN) >>> 1;
            return (upAndDown | rightAndLeft) & openWith[keys];
        }

        private static boolean lets(int kind, int keys) {
            if (kind >= FIRST_DOOR && kind < GOAL) {
                return (keys >> (kind - FIRST_DOOR) & 1) == 1;
            }
            return kind != WALL;
        }

        private static int keyIn(int kind) {
            return kind >= FIRST_KEY && kind < FIRST_DOOR ? 1 << (kind - FIRST_KEY) : 0;
        }

        /** Two that were on one cell and changed places are on one cell still: no case of its own. */
        private boolean meetsFoe(int from, int to, int tick) {
            if (roundLength == 0) {
                return false;
            }
            int foeBefore = foeCell(tick);
            int foeNow = foeCell(tick + 1);
            return to == foeNow || (to == foeBefore && from == foeNow);
        }
    }

    /**
     * The fewest presses to the end. Nodes are taken first come first served and presses tried from
     * the least on, so every node is first reached by the first of its shortest rows.
     */
    private static final class Search {
        private static final int NODES = Game.SPOTS * Game.MOST_ROUND;
        private static final int UNSEEN = -2;
        private static final int ROOT = -1;

        private final int[] queue = new int[NODES];
        private final int[] cameFrom = new int[NODES];
        private final int[] pressed = new int[NODES];
        private final Row row = new Row(NODES);
        private int queued;

        /** Whether there is a row; it is left in row, which is to be empty before. */
        boolean find(Game game, int spot, int tick) {
            int turns = Math.max(game.roundLength, 1);
            Arrays.fill(cameFrom, UNSEEN);
            queued = 0;
            reach(Math.floorMod(tick, turns) * Game.SPOTS + spot, ROOT, 0);
            for (int i = 0; i < queued && i < NODES; i++) {
                int last = pressesFrom(game, queue[i], turns);
                if (last != NONE) {
                    writeRow(queue[i], last);
                    return true;
                }
            }
            return false;
        }

        /** Reaches what the presses lead to; the press that ends the run, if there is one. */
        private int pressesFrom(Game game, int node, int turns) {
            int turn = node / Game.SPOTS;
            int nextTurn = turn + 1 < turns ? turn + 1 : 0;
            for (int press = 0; press < PRESS_KINDS; press++) {
                int after = game.after(node % Game.SPOTS, turn, press);
                int outcome = Game.outcomeOf(after);
                if (outcome == ENDED) {
                    return press;
                }
                if (outcome == GOES_ON) {
                    reach(nextTurn * Game.SPOTS + Game.spotOf(after), node, press);
                }
            }
            return NONE;
        }

        private void reach(int node, int parent, int press) {
            if (cameFrom[node] != UNSEEN || queued >= NODES) {
                return;
            }
            cameFrom[node] = parent;
            pressed[node] = press;
            queue[queued] = node;
            queued++;
        }

        private void writeRow(int node, int lastPress) {
            row.add(lastPress);
            int at = node;
            for (int i = 0; i < NODES && cameFrom[at] >= 0; i++) {
                row.add(pressed[at]);
                at = cameFrom[at];
            }
            row.reverse();
        }
    }

    /** What was seen by eye, and how much of it one row of presses can do. */
    private static final class Splits {
        private static final int MOST = 5;
        private static final int LAST_TICK = 200;

        private final int[] cells = new int[MOST];
        private final int[] earliest = new int[MOST];
        private final int[] latest = new int[MOST];
        private int length;

        // The cells where the runner can be, for each number of splits done and each set of keys.
        private long[] here = new long[(MOST + 1) * Game.KEY_SETS];
        private long[] ahead = new long[(MOST + 1) * Game.KEY_SETS];

        void clear() {
            length = 0;
        }

        boolean add(int cell, int a, int b) {
            if (length >= MOST || a < 0 || a > b || b > LAST_TICK) {
                return false;
            }
            cells[length] = cell;
            earliest[length] = a;
            latest[length] = b;
            length++;
            return true;
        }

        int mostTogether(Game game) {
            Arrays.fill(ahead, 0L);
            ahead[0] = 1L << game.startCell;
            int most = countDone(0, 0);
            boolean someGoOn = true;
            for (int tick = 0; tick < LAST_TICK && someGoOn && most < length; tick++) {
                long[] past = here;
                here = ahead;
                ahead = past;
                Arrays.fill(ahead, 0L);
                someGoOn = goOn(game, tick);
                most = countDone(tick + 1, most);
            }
            return most;
        }

        /** Counts a split as soon as it can be: who has done more can do all that others still can. */
        private int countDone(int tick, int mostBefore) {
            int most = mostBefore;
            for (int split = 0; split < length; split++) {
                if (tick < earliest[split] || tick > latest[split]) {
                    continue;
                }
                for (int keys = 0; keys < Game.KEY_SETS; keys++) {
                    int place = split * Game.KEY_SETS + keys;
                    long done = ahead[place] & (1L << cells[split]);
                    ahead[place] &= ~done;
                    ahead[place + Game.KEY_SETS] |= done;
                    if (done != 0L) {
                        most = Math.max(most, split + 1);
                    }
                }
            }
            return most;
        }

        /** Whether there is a runner that can still do its next split. */
        private boolean goOn(Game game, int tick) {
            // A goal at the beginning is not reached.
            long over = tick == 0 ? 0L : game.goalCells;
            boolean someGoOn = false;
            for (int done = 0; done < length; done++) {
                for (int keys = 0; keys < Game.KEY_SETS && tick < latest[done]; keys++) {
                    long from = here[done * Game.KEY_SETS + keys] & ~over;
                    if (from != 0L) {
                        arrive(game, game.allAfter(from, keys, tick), done, keys);
                        someGoOn = true;
                    }
                }
            }
            return someGoOn;
        }

        private void arrive(Game game, long to, int done, int keys) {
            long withoutKey = to;
            for (int key = 0; key < Game.KEYS; key++) {
                long onKey = to & game.keyCells[key];
                ahead[done * Game.KEY_SETS + (keys | 1 << key)] |= onKey;
                withoutKey &= ~onKey;
            }
            ahead[done * Game.KEY_SETS + keys] |= withoutKey;
        }
    }

    /** One road; its failing is looked at only where it can fail. */
    private static final class Road {
        private int from;
        private int to;
        private int needs;
        private int gives;
        private int ticks;
        private int odds;
        private int failRoom;
        private int failTicks;
        private boolean barred;

        void lead(int fromRoom, int toRoom, int needed, int given) {
            from = fromRoom;
            to = toRoom;
            needs = needed;
            gives = given;
        }

        void succeed(int itsTicks, int itsOdds) {
            ticks = itsTicks;
            odds = itsOdds;
        }

        void fail(int room, int itsTicks) {
            failRoom = room;
            failTicks = itsTicks;
        }

        boolean isOpenFor(int room, int things) {
            return !barred && from == room && (things & needs) == needs;
        }

        boolean isSure() {
            return odds == RoadMap.SURE;
        }
    }

    /** Rooms and roads; a stand is a room and things in one number. */
    private static final class RoadMap {
        private static final int SURE = 8;
        private static final int MOST_ROADS = 40;
        private static final int ROOMS = 10;
        private static final int THINGS = 16;
        private static final int STANDS = ROOMS * THINGS;
        private static final int MOST_STEPS = MOST_ROADS * THINGS;
        private static final int MOST_TICKS = 100;
        private static final int MOST_LEFT = 300;
        private static final int ALL = 1 << 30;
        private static final int ANEW = -2;

        private final Road[] roads = new Road[MOST_ROADS];
        private int length;
        private int goalRoom;
        private int goalThings;
        private int anewPrice;

        private final int[] fewest = new int[STANDS];

        // A chance asks only for those with fewer ticks left, so levels are filled from 0 left up
        // and stay right until the roads, the goal or the price change. Of the stands only those
        // are worked out that can follow one that was asked for.
        private final int[] chances = new int[STANDS * (MOST_LEFT + 1)];
        private int knownLevels;
        private final int[] stands = new int[STANDS];
        private final boolean[] isListed = new boolean[STANDS];
        private int standCount;

        // What can be gone from the listed stands: a road, and the things with which it is gone.
        private final int[] stepRoads = new int[MOST_STEPS];
        private final int[] stepThings = new int[MOST_STEPS];
        private int stepCount;

        RoadMap() {
            for (int i = 0; i < MOST_ROADS; i++) {
                roads[i] = new Road();
            }
        }

        static boolean isRoom(int room) {
            return room >= 0 && room < ROOMS;
        }

        static boolean isThings(int things) {
            return things >= 0 && things < THINGS;
        }

        static boolean isTicks(int ticks) {
            return ticks >= 1 && ticks <= MOST_TICKS;
        }

        static boolean isOdds(int odds) {
            return odds >= 1 && odds <= SURE;
        }

        static boolean isWay(int from, int to, int needs, int gives) {
            return isRoom(from) && isRoom(to) && isThings(needs) && isThings(gives);
        }

        static boolean isAsked(int room, int things, int left) {
            return isRoom(room) && isThings(things) && left >= 0 && left <= MOST_LEFT;
        }

        private static int standAt(int room, int things) {
            return room * THINGS + things;
        }

        boolean isFull() {
            return length >= MOST_ROADS;
        }

        boolean hasRoad(int road) {
            return road >= 0 && road < length;
        }

        int openNext() {
            forgetChances();
            length++;
            return length - 1;
        }

        void forgetChances() {
            stepCount = 0;
            for (int i = 0; i < standCount; i++) {
                isListed[stands[i]] = false;
            }
            standCount = 0;
        }

        private boolean isMet(int room, int things) {
            return room == goalRoom && (things & goalThings) == goalThings;
        }

        int fewestSureTicks() {
            Arrays.fill(fewest, NONE);
            fewest[0] = 0;
            boolean changed = true;
            // A shortest way comes to no stand twice.
            for (int round = 0; round < STANDS && changed; round++) {
                changed = false;
                for (int i = 0; i < length; i++) {
                    if (roads[i].isSure() && goSurely(roads[i])) {
                        changed = true;
                    }
                }
            }
            return fewestAtGoal();
        }

        private boolean goSurely(Road road) {
            boolean changed = false;
            for (int things = 0; things < THINGS; things++) {
                int before = fewest[standAt(road.from, things)];
                if (before == NONE || !road.isOpenFor(road.from, things)) {
                    continue;
                }
                int behind = standAt(road.to, things | road.gives);
                int ticks = before + road.ticks;
                if (fewest[behind] == NONE || ticks < fewest[behind]) {
                    fewest[behind] = ticks;
                    changed = true;
                }
            }
            return changed;
        }

        private int fewestAtGoal() {
            int least = NONE;
            for (int things = 0; things < THINGS; things++) {
                int ticks = fewest[standAt(goalRoom, things)];
                boolean counts = ticks != NONE && isMet(goalRoom, things);
                if (counts && (least == NONE || ticks < least)) {
                    least = ticks;
                }
            }
            return least;
        }

        int greatest(int room, int things, int left) {
            listFrom(standAt(room, things));
            fillLevels(left);
            return chanceAt(standAt(room, things), left);
        }

        int chosen(int room, int things, int left) {
            int whole = greatest(room, things, left);
            if (whole == 0 || isMet(room, things)) {
                return NONE;
            }
            for (int i = 0; i < length; i++) {
                Road road = roads[i];
                if (road.isOpenFor(room, things) && worth(road, things, left) == whole) {
                    return i;
                }
            }
            return ANEW;
        }

        /** A stand listed late has no chances at the levels that are known, so these go. */
        private void listFrom(int stand) {
            if (isListed[stand]) {
                return;
            }
            knownLevels = 0;
            int unseen = standCount;
            addStand(stand);
            if (anewPrice > 0) {
                addStand(standAt(0, 0));
            }
            for (int i = unseen; i < standCount && i < STANDS; i++) {
                listSteps(stands[i] / THINGS, stands[i] % THINGS);
            }
        }

        private void addStand(int stand) {
            if (!isListed[stand] && standCount < STANDS) {
                isListed[stand] = true;
                stands[standCount] = stand;
                standCount++;
            }
        }

        private void listSteps(int room, int things) {
            for (int i = 0; i < length && !isMet(room, things); i++) {
                Road road = roads[i];
                if (!road.isOpenFor(room, things) || stepCount >= MOST_STEPS) {
                    continue;
                }
                stepRoads[stepCount] = i;
                stepThings[stepCount] = things;
                stepCount++;
                addStand(standAt(road.to, things | road.gives));
                if (!road.isSure()) {
                    addStand(standAt(road.failRoom, things));
                }
            }
        }

        private void fillLevels(int left) {
            for (int level = knownLevels; level <= left && level <= MOST_LEFT; level++) {
                fillWithoutRoads(level);
                raiseByRoads(level);
                knownLevels = level + 1;
            }
        }

        private void fillWithoutRoads(int level) {
            int byAnew = anewPrice > 0 ? chanceAt(standAt(0, 0), level - anewPrice) : 0;
            for (int i = 0; i < standCount; i++) {
                int stand = stands[i];
                boolean met = isMet(stand / THINGS, stand % THINGS);
                chances[level * STANDS + stand] = met ? ALL : byAnew;
            }
        }

        private void raiseByRoads(int level) {
            for (int i = 0; i < stepCount; i++) {
                Road road = roads[stepRoads[i]];
                int place = level * STANDS + standAt(road.from, stepThings[i]);
                chances[place] = Math.max(chances[place], worth(road, stepThings[i], level));
            }
        }

        /** The chance when this road is gone next. */
        private int worth(Road road, int things, int left) {
            int good = chanceAt(standAt(road.to, things | road.gives), left - road.ticks);
            if (road.isSure()) {
                return good;
            }
            int bad = chanceAt(standAt(road.failRoom, things), left - road.failTicks);
            long eighths = (long) road.odds * good + (long) (SURE - road.odds) * bad;
            return (int) (eighths / SURE);
        }

        private int chanceAt(int stand, int left) {
            return left >= 0 && left <= MOST_LEFT ? chances[left * STANDS + stand] : 0;
        }
    }
}
