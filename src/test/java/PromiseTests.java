/** For each promise of the document: ordinary inputs, the edges it names, and wrong inputs. */
public final class PromiseTests {
    private static final int NONE = FastestRun.NONE;
    private static final int MIN = Integer.MIN_VALUE;
    private static final int MAX = Integer.MAX_VALUE;
    private static final long ALL = 1L << 30;

    public static void main(String[] args) {
        promise1NewObject();
        promise2Board();
        promise3Cell();
        promise4Foe();
        promise5Start();
        promise6Press();
        promise6Keys();
        promise6Foe();
        promise7State();
        promise8Save();
        promise9Back();
        promise10Begin();
        promise11Least();
        promise11LeastEdges();
        promise12Best();
        promise13Claim();
        promise14Unclaim();
        promise15Prove();
        promise16Differs();
        promise17Split();
        promise18Unsplit();
        promise19Could();
        promise19CouldEdges();
        promise19CouldAtTheEdge();
        promise20Road();
        promise21Bar();
        promise22Goal();
        promise23Anew();
        promise24Sure();
        promise25Chance();
        promise25Cut();
        promise26Choice();
        promise27Count();
        Check.end();
    }

    private static void promise1NewObject() {
        Desk f = new Desk();
        Check.due("1 NONE", NONE, -1);
        int[] counts = {2, 2, 0, 0, 0, 0};
        for (int what = 0; what < counts.length; what++) {
            Check.due("1 count " + what, f.count(what), counts[what]);
        }
        Edges.dueState("1 new", f, 0, 0, 0, 0, 0);
        Check.due("1 no foe", f.state(5), NONE);
        Check.due("1 no row", f.best(0), NONE);
        Check.due("1 nothing is kept", f.back(0), false);
        Check.due("1 floor has no end", f.least(), NONE);
        Edges.duePresses("1 all floor", f, 0, 2, 3, 4, 1);
        Edges.dueState("1 once round", f, 0, 0, 0, 4, 0);
        Check.due("1 the goal is room 0", f.sure(), 0);
        Check.due("1 the goal is met", f.chance(0, 0, 0), ALL);
        Check.due("1 no anew", f.chance(1, 0, 300), 0);
    }

    private static void promise2Board() {
        Desk f = new Desk();
        int[][] wrong = {{1, 2}, {2, 1}, {9, 8}, {8, 9}, {0, 0}, {-2, -2}, {MIN, 2}, {2, MAX}};
        f.press(2);
        f.split(1, 1, 0, 9);
        f.claim(2);
        for (int[] size : wrong) {
            Check.due("2 board " + size[0] + " " + size[1], f.board(size[0], size[1]), false);
        }
        Edges.dueState("2 refused boards change nothing", f, 1, 0, 0, 1, 0);
        Check.due("2 refused: width", f.count(0), 2);
        Check.due("2 refused: claim", f.count(3), 1);
        Check.due("2 refused: splits", f.count(4), 1);
        Check.due("2 board 8 8", f.board(8, 8), true);
        Check.due("2 width", f.count(0), 8);
        Check.due("2 height", f.count(1), 8);
        Check.due("2 no claim", f.count(3), 0);
        Check.due("2 no splits", f.count(4), 0);
        Edges.dueState("2 the run begins", f, 0, 0, 0, 0, 0);
        f.cell(1, 0, 1);
        f.foe(7, 7);
        f.start(3, 3);
        f.save(0);
        f.road(0, 1, 0, 0, 1, 8, 0, 0);
        Check.due("2 board 2 8", f.board(2, 8), true);
        Check.due("2 no foe", f.count(2), 0);
        Check.due("2 no foe to see", f.state(5), NONE);
        Check.due("2 nothing kept", f.back(0), false);
        Check.due("2 roads stay", f.count(5), 1);
        Edges.dueState("2 begins at 0 0", f, 0, 0, 0, 0, 0);
        Edges.duePresses("2 all floor", f, 0, 2);
        Edges.dueState("2 the wall is gone", f, 1, 0, 0, 1, 0);
    }

    private static void promise3Cell() {
        Desk f = Desk.onBoard(3, 2);
        int[][] wrong = {{-1, 0, 0}, {0, -1, 0}, {3, 0, 0}, {0, 2, 0}, {0, 0, -1}, {0, 0, 9}, {MIN, MAX, 1}, {0, 0, MAX}};
        f.press(2);
        f.save(1);
        for (int[] c : wrong) {
            Check.due("3 cell " + c[0] + " " + c[1] + " " + c[2], f.cell(c[0], c[1], c[2]), false);
        }
        Edges.dueState("3 refused cells change nothing", f, 1, 0, 0, 1, 0);
        Check.due("3 refused: kept", f.back(1), true);
        f.claim(2);
        f.split(0, 0, 0, 0);
        for (int kind = 0; kind <= 8; kind++) {
            Check.due("3 kind " + kind, f.cell(2, 1, kind), true);
        }
        Edges.dueState("3 the run begins anew", f, 0, 0, 0, 0, 0);
        Check.due("3 nothing kept", f.back(1), false);
        Check.due("3 the claim stays", f.count(3), 1);
        Check.due("3 splits stay", f.count(4), 1);
        Check.due("3 the last kind stands", f.least(), 3);
        f.cell(1, 0, 1);
        f.cell(1, 1, 1);
        Check.due("3 walls", f.least(), NONE);
        f.cell(1, 1, 0);
        Check.due("3 floor again", f.least(), 3);
        f.foe(2, 0);
        f.start(0, 1);
        f.cell(0, 0, 0);
        Check.due("3 the foe stays", f.count(2), 1);
        Check.due("3 the beginning stays", f.state(1), 1);
    }

    private static void promise4Foe() {
        Desk f = Desk.onBoard(3, 2);
        int[][] wrong = {{-1, 0}, {0, -1}, {3, 0}, {0, 2}, {MAX, MIN}};
        f.press(2);
        f.save(2);
        for (int[] c : wrong) {
            Check.due("4 foe " + c[0] + " " + c[1], f.foe(c[0], c[1]), false);
        }
        Check.due("4 refused: tick", f.state(3), 1);
        Check.due("4 refused: kept", f.back(2), true);
        int[][] round = {{2, 1}, {2, 1}, {1, 1}, {2, 0}, {0, 1}, {0, 0}};
        for (int[] c : round) {
            Check.due("4 foe " + c[0] + " " + c[1], f.foe(c[0], c[1]), true);
        }
        Check.due("4 the run begins anew", f.state(3), 0);
        Check.due("4 nothing kept", f.back(2), false);
        f.press(0);
        Check.due("4 a seventh", f.foe(1, 0), false);
        Check.due("4 six", f.count(2), 6);
        Check.due("4 a seventh changes nothing", f.state(3), 1);
        f.begin();
        f.press(2);
        for (int tick = 1; tick < 14 && f.state(4) == 0; tick++) {
            Check.due("4 foe x at " + tick, f.state(5), round[tick % 6][0]);
            Check.due("4 foe y at " + tick, f.state(6), round[tick % 6][1]);
            f.press(0);
        }
        Check.due("4 all of it was seen", f.state(3), 14);
    }

    private static void promise5Start() {
        Desk f = Desk.onBoard(3, 2);
        f.press(2);
        f.save(3);
        int[][] wrong = {{-1, 0}, {0, -1}, {3, 0}, {0, 2}, {MIN, MIN}};
        for (int[] c : wrong) {
            Check.due("5 start " + c[0] + " " + c[1], f.start(c[0], c[1]), false);
        }
        Edges.dueState("5 refused starts change nothing", f, 1, 0, 0, 1, 0);
        Check.due("5 refused: kept", f.back(3), true);
        Check.due("5 start 2 1", f.start(2, 1), true);
        Edges.dueState("5 begins there", f, 2, 1, 0, 0, 0);
        Check.due("5 nothing kept", f.back(3), false);
        f.cell(2, 1, 1);
        Edges.dueState("5 in a wall", f, 2, 1, 0, 0, 0);
        Edges.duePresses("5 out of a wall", f, 0, 0, 4);
        Edges.dueState("5 out of a wall", f, 1, 1, 0, 2, 0);
        Edges.duePresses("5 and not back", f, 0, 2);
        Edges.dueState("5 and not back", f, 1, 1, 0, 3, 0);
        f.cell(2, 1, 3);
        Edges.dueState("5 a key there isn't taken", f, 2, 1, 0, 0, 0);
        Edges.duePresses("5 but by a tick there", f, 0, 0);
        Edges.dueState("5 but by a tick there", f, 2, 1, 2, 1, 0);
        f.cell(2, 1, 8);
        Edges.dueState("5 a goal there isn't reached", f, 2, 1, 0, 0, 0);
        Edges.duePresses("5 but by a tick there", f, 2, 0);
        f.cell(2, 1, 0);
        f.foe(2, 1);
        Edges.dueState("5 a foe there does nothing", f, 2, 1, 0, 0, 0);
        Edges.duePresses("5 one can leave it", f, 0, 4);
        f.begin();
        Edges.duePresses("5 or be caught there", f, 1, 0);
    }

    private static void promise6Press() {
        Desk f = Desk.onBoard(3, 3);
        f.start(1, 1);
        for (int wrong : new int[] {-1, 5, MIN, MAX}) {
            Check.due("6 press " + wrong, f.press(wrong), NONE);
        }
        Edges.dueState("6 wrong presses do nothing", f, 1, 1, 0, 0, 0);
        int[][] ways = {{1, 1}, {1, 0}, {2, 1}, {1, 2}, {0, 1}};
        for (int press = 0; press < 5; press++) {
            f.begin();
            Edges.duePresses("6 way " + press, f, 0, press);
            Edges.dueState("6 way " + press, f, ways[press][0], ways[press][1], 0, 1, 0);
            Edges.duePresses("6 to the edge " + press, f, 0, press);
            Edges.dueState("6 to the edge " + press, f, ways[press][0], ways[press][1], 0, 2, 0);
        }
        f.cell(2, 1, 1);
        Edges.duePresses("6 against a wall", f, 0, 2);
        Edges.dueState("6 against a wall", f, 1, 1, 0, 1, 0);
        f.cell(1, 0, 8);
        Edges.duePresses("6 the goal", f, 2, 1);
        Edges.dueState("6 the goal", f, 1, 0, 0, 1, 2);
        Edges.duePresses("6 over", f, NONE, 0, 1, 3);
        Edges.dueState("6 over", f, 1, 0, 0, 1, 2);
        Desk g = new Desk();
        Edges.idle(g, 500);
        Check.due("6 tick 500", g.state(3), 500);
        Edges.duePresses("6 there were 500", g, NONE, 0, 2);
        Edges.dueState("6 there were 500", g, 0, 0, 0, 500, 0);
    }

    private static void promise6Keys() {
        for (int key = 0; key < 3; key++) {
            Desk f = Desk.onBoard(5, 2);
            f.cell(1, 0, 2 + key);
            f.cell(2, 0, 5 + key);
            f.cell(3, 0, 5 + (key + 1) % 3);
            Edges.duePresses("6 key " + key, f, 0, 2, 2);
            Edges.dueState("6 through door " + key, f, 2, 0, 1 << key, 2, 0);
            Edges.duePresses("6 the other door " + key, f, 0, 2);
            Edges.dueState("6 the other door " + key, f, 2, 0, 1 << key, 3, 0);
            Edges.duePresses("6 again on the key " + key, f, 0, 4);
            Edges.dueState("6 it stays there " + key, f, 1, 0, 1 << key, 4, 0);
            f.begin();
            Edges.duePresses("6 round the key " + key, f, 0, 3, 2, 2, 1);
            Edges.dueState("6 no key " + key, f, 2, 1, 0, 4, 0);
        }
        Desk f = Desk.onBoard(4, 2);
        f.cell(1, 0, 2);
        f.cell(2, 0, 3);
        f.cell(3, 0, 4);
        Edges.duePresses("6 all keys", f, 0, 2, 2, 2);
        Edges.dueState("6 all keys", f, 3, 0, 7, 3, 0);
    }

    private static void promise6Foe() {
        Desk f = Desk.onBoard(4, 2);
        f.foe(2, 0);
        Edges.duePresses("6 beside a foe that stands", f, 0, 2);
        Edges.duePresses("6 onto it", f, 1, 2);
        Edges.dueState("6 onto it", f, 2, 0, 0, 2, 1);
        Edges.duePresses("6 caught is over", f, NONE, 0);
        f.cell(2, 0, 8);
        Edges.duePresses("6 caught on the goal", f, 0, 2);
        Edges.duePresses("6 caught on the goal", f, 1, 2);
        f.cell(2, 0, 2);
        Edges.duePresses("6 caught on a key", f, 0, 2);
        Edges.duePresses("6 caught on a key", f, 1, 2);
        Edges.dueState("6 the key isn't taken", f, 2, 0, 0, 2, 1);
        Desk g = Desk.onBoard(4, 2);
        g.foe(1, 0);
        g.foe(0, 0);
        Edges.duePresses("6 past each other", g, 1, 2);
        Edges.dueState("6 past each other", g, 1, 0, 0, 1, 1);
        g.begin();
        Edges.duePresses("6 it comes", g, 1, 0);
        g.begin();
        Edges.duePresses("6 aside", g, 0, 3);
        Desk h = Desk.onBoard(4, 2);
        h.foe(0, 0);
        h.foe(1, 0);
        h.foe(2, 0);
        Edges.duePresses("6 from one cell to one cell", h, 1, 2);
        h.begin();
        Edges.duePresses("6 behind it", h, 0, 0, 2);
        Edges.duePresses("6 it is at the first again", h, 1, 4);
    }

    private static void promise7State() {
        Desk f = Desk.onBoard(5, 4);
        f.cell(3, 3, 4);
        f.foe(4, 1);
        f.foe(0, 3);
        f.start(3, 2);
        Edges.duePresses("7", f, 0, 3);
        int[] want = {3, 3, 4, 1, 0, 0, 3};
        for (int what = 0; what < want.length; what++) {
            Check.due("7 state " + what, f.state(what), want[what]);
        }
        for (int wrong : new int[] {-1, 7, MIN, MAX}) {
            Check.due("7 state " + wrong, f.state(wrong), NONE);
        }
        Desk g = Desk.onBoard(2, 2);
        Check.due("7 no foe x", g.state(5), NONE);
        Check.due("7 no foe y", g.state(6), NONE);
    }

    private static void promise8Save() {
        Desk f = Desk.onBoard(4, 2);
        for (int wrong : new int[] {-1, 4, MIN, MAX}) {
            Check.due("8 save " + wrong, f.save(wrong), false);
        }
        for (int place = 0; place < 4; place++) {
            Check.due("8 save " + place, f.save(place), true);
            f.press(2);
        }
        for (int place = 0; place < 4; place++) {
            f.back(place);
            Check.due("8 kept at " + place, f.state(3), place);
        }
        Check.due("8 another one there", f.save(0), true);
        f.begin();
        f.back(0);
        Check.due("8 the later one", f.state(3), 3);
        for (int told = 0; told < 4; told++) {
            f.save(1);
            boolean done = told == 0 ? f.board(4, 2) : told == 1 ? f.cell(3, 1, 0) : told == 2 ? f.foe(3, 1) : f.start(0, 0);
            Check.due("8 told " + told, done, true);
            Check.due("8 gone by " + told, f.back(1), false);
        }
        f.save(2);
        f.claim(1);
        f.unclaim();
        f.split(0, 0, 0, 0);
        f.unsplit();
        f.least();
        f.begin();
        Check.due("8 stays by others", f.back(2), true);
    }

    private static void promise9Back() {
        Desk f = Desk.onBoard(4, 2);
        f.cell(1, 0, 2);
        f.cell(3, 0, 8);
        f.foe(0, 1);
        f.foe(3, 1);
        for (int place : new int[] {-1, 0, 3, 4, MIN, MAX}) {
            Check.due("9 back " + place, f.back(place), false);
        }
        Edges.duePresses("9", f, 0, 2);
        f.save(0);
        Edges.duePresses("9", f, 0, 2);
        Edges.duePresses("9", f, 2, 2);
        f.save(1);
        Check.due("9 none kept there", f.back(2), false);
        Edges.dueState("9 nothing changed", f, 3, 0, 1, 3, 2);
        Check.due("9 back 0", f.back(0), true);
        Edges.dueState("9 as it was", f, 1, 0, 1, 1, 0);
        Check.due("9 the foe as it was", f.state(5), 3);
        Edges.claimAll(f, 2);
        Check.due("9 the presses as they were", f.differs(), NONE);
        f.unclaim();
        f.back(1);
        Edges.claimAll(f, 2, 2, 2);
        Check.due("9 all of the presses as they were", f.differs(), NONE);
        f.begin();
        Edges.duePresses("9 other presses", f, 0, 4, 1, 0);
        f.back(1);
        Check.due("9 not the other ones", f.differs(), NONE);
        f.back(0);
        Check.due("9 fewer than the claim", f.differs(), 2);
        Edges.duePresses("9 on from there", f, 0, 0);
        Check.due("9 what is kept stays as it was", f.back(0), true);
        Edges.dueState("9 again", f, 1, 0, 1, 1, 0);
        Check.due("9 back to the end", f.back(1), true);
        Edges.dueState("9 ended", f, 3, 0, 1, 3, 2);
        Edges.duePresses("9 over", f, NONE, 0);
        f.start(3, 0);
        Edges.duePresses("9 onto where the foe comes", f, 1, 3);
        f.save(3);
        f.begin();
        Check.due("9 back to caught", f.back(3), true);
        Check.due("9 caught", f.state(4), 1);
    }

    private static void promise10Begin() {
        Desk f = Desk.onBoard(3, 2);
        f.cell(2, 1, 2);
        f.foe(0, 0);
        f.foe(0, 1);
        f.start(1, 1);
        Edges.claimAll(f, 1, 2);
        f.split(0, 0, 0, 0);
        Edges.duePresses("10", f, 0, 2);
        f.save(0);
        f.begin();
        Edges.dueState("10 anew", f, 1, 1, 0, 0, 0);
        Check.due("10 the foe anew", f.state(6), 0);
        Check.due("10 the claim stays", f.count(3), 2);
        Check.due("10 splits stay", f.count(4), 1);
        Check.due("10 no presses", f.differs(), 1);
        Check.due("10 what is kept stays", f.back(0), true);
        Edges.dueState("10 kept", f, 2, 1, 1, 1, 0);
        f.begin();
        Edges.duePresses("10", f, 1, 4);
        f.begin();
        Edges.dueState("10 no more caught", f, 1, 1, 0, 0, 0);
    }

    private static void promise11Least() {
        Desk f = Desk.onBoard(3, 3);
        f.cell(2, 2, 8);
        Check.due("11 open", f.least(), 4);
        Edges.dueRow("11 the first row", f, 2, 2, 3, 3);
        Edges.dueState("11 the state stays", f, 0, 0, 0, 0, 0);
        Edges.duePresses("11", f, 0, 3, 2);
        Check.due("11 from the state at hand", f.least(), 2);
        Edges.dueRow("11 from the state at hand", f, 2, 3);
        Edges.duePresses("11", f, 0, 2);
        Edges.duePresses("11", f, 2, 3);
        Check.due("11 ended", f.least(), 0);
        Edges.dueRow("11 ended", f);
        f.cell(1, 2, 8);
        Check.due("11 the nearer goal", f.least(), 3);
        Edges.dueRow("11 the nearer goal", f, 2, 3, 3);
        f.cell(1, 2, 1);
        f.cell(2, 1, 1);
        Check.due("11 walled in", f.least(), NONE);
        Edges.dueRow("11 walled in", f);
        f.cell(2, 1, 6);
        Check.due("11 a door without its key", f.least(), NONE);
        f.cell(0, 2, 2);
        Check.due("11 the wrong key", f.least(), NONE);
        f.cell(0, 2, 3);
        Check.due("11 key, door, goal", f.least(), 6);
        Edges.dueRow("11 key, door, goal", f, 3, 3, 1, 2, 2, 3);
    }

    private static void promise11LeastEdges() {
        Desk f = Desk.onBoard(3, 2);
        f.cell(0, 0, 8);
        Check.due("11 begun on the goal", f.least(), 1);
        Edges.dueRow("11 begun on the goal", f, 0);
        f.cell(0, 0, 0);
        f.cell(2, 0, 8);
        f.foe(1, 1);
        f.foe(1, 0);
        Check.due("11 a tick waited", f.least(), 3);
        Edges.dueRow("11 a tick waited", f, 0, 2, 2);
        Edges.duePresses("11", f, 1, 2);
        Check.due("11 caught", f.least(), NONE);
        Edges.dueRow("11 caught", f);
        f.begin();
        Edges.duePresses("11", f, 0, 0);
        Check.due("11 by where the foe is", f.least(), 2);
        Desk g = Desk.onBoard(3, 2);
        g.cell(2, 0, 8);
        g.foe(2, 0);
        Check.due("11 the foe on the goal", g.least(), NONE);
        g.foe(2, 0);
        g.foe(2, 0);
        g.foe(2, 1);
        Check.due("11 gone from it at tick 3", g.least(), 3);
        Edges.dueRow("11 gone from it at tick 3", g, 0, 2, 2);
        Edges.duePresses("11", g, 0, 0, 0, 0);
        Check.due("11 gone from it in the next round", g.least(), 4);
        Edges.dueRow("11 gone from it in the next round", g, 0, 0, 2, 2);
        Desk h = Desk.onBoard(8, 8);
        h.cell(7, 7, 8);
        for (int i = 0; i < 490; i++) {
            h.press(0);
        }
        Check.due("11 late in a run", h.least(), 14);
    }

    private static void promise12Best() {
        Desk f = Desk.onBoard(3, 2);
        Edges.dueRow("12 no least yet", f);
        f.cell(2, 1, 8);
        f.least();
        for (int wrong : new int[] {-1, 3, MIN, MAX}) {
            Check.due("12 best " + wrong, f.best(wrong), NONE);
        }
        Edges.dueRow("12", f, 2, 2, 3);
        f.press(3);
        Edges.dueRow("12 as it was then", f, 2, 2, 3);
        f.cell(1, 0, 1);
        f.foe(0, 1);
        Edges.dueRow("12 in another game", f, 2, 2, 3);
        f.board(2, 2);
        Edges.dueRow("12 on another board", f, 2, 2, 3);
        Check.due("12 the latest", f.least(), NONE);
        Edges.dueRow("12 the latest", f);
    }

    private static void promise13Claim() {
        Desk f = Desk.onBoard(2, 2);
        for (int wrong : new int[] {-1, 5, MIN, MAX}) {
            Check.due("13 claim " + wrong, f.claim(wrong), NONE);
        }
        Check.due("13 none came", f.count(3), 0);
        for (int i = 1; i <= 400; i++) {
            Check.due("13 claim number " + i, f.claim(i % 5), i);
        }
        Check.due("13 400 there are", f.claim(0), NONE);
        Check.due("13 400", f.count(3), 400);
        Check.due("13 the state stays", f.state(3), 0);
    }

    private static void promise14Unclaim() {
        Desk f = Desk.onBoard(2, 2);
        f.cell(1, 0, 8);
        Edges.claimAll(f, 3, 2);
        f.unclaim();
        Check.due("14 empty", f.count(3), 0);
        Check.due("14 plays nothing", f.prove(0), 4);
        Check.due("14 the first again", f.claim(2), 1);
        Check.due("14 only the new one", f.prove(1), 0);
    }

    private static void promise15Prove() {
        Desk f = Desk.onBoard(3, 2);
        f.cell(2, 0, 8);
        f.cell(1, 0, 5);
        f.cell(0, 1, 2);
        Check.due("15 empty", f.prove(0), 4);
        Edges.claimAll(f, 3, 1, 2);
        Check.due("15 goes on", f.prove(3), 4);
        f.claim(2);
        f.press(3);
        Check.due("15 at the tick told", f.prove(4), 0);
        for (int ticks : new int[] {3, 5, 0, -1, MIN, MAX}) {
            Check.due("15 at another than " + ticks, f.prove(ticks), 1);
        }
        Edges.dueState("15 the state stays", f, 0, 1, 1, 1, 0);
        f.claim(4);
        Check.due("15 ahead of its last", f.prove(4), 2);
        Check.due("15 ahead of its last, 5 told", f.prove(5), 2);
        f.unclaim();
        Edges.claimAll(f, 2, 2, 2, 2);
        Check.due("15 without the key", f.prove(4), 4);
        f.cell(1, 0, 0);
        Check.due("15 the game as it is now", f.prove(2), 2);
        f.foe(2, 1);
        f.foe(2, 1);
        f.foe(2, 0);
        Check.due("15 caught", f.prove(2), 3);
        f.unclaim();
        Edges.claimAll(f, 0, 2, 2);
        Check.due("15 past the foe", f.prove(3), 0);
        f.start(1, 0);
        Check.due("15 from the beginning there is", f.prove(3), 3);
        f.begin();
        f.press(4);
        f.save(0);
        f.unclaim();
        Edges.claimAll(f, 2);
        Check.due("15 not from the state at hand", f.prove(1), 0);
        Check.due("15 the state at hand stays", f.state(0), 0);
    }

    private static void promise16Differs() {
        Desk f = Desk.onBoard(3, 3);
        Check.due("16 both empty", f.differs(), NONE);
        f.claim(2);
        Check.due("16 the run has none", f.differs(), 1);
        f.press(2);
        Check.due("16 alike", f.differs(), NONE);
        f.press(0);
        Check.due("16 the claim has none", f.differs(), 2);
        f.claim(0);
        f.claim(1);
        f.press(3);
        f.claim(2);
        f.press(2);
        Check.due("16 at 3", f.differs(), 3);
        f.save(0);
        f.begin();
        Check.due("16 begun anew", f.differs(), 1);
        f.press(2);
        f.press(0);
        f.press(1);
        f.press(2);
        Check.due("16 alike again", f.differs(), NONE);
        f.back(0);
        Check.due("16 by the state at hand", f.differs(), 3);
        f.press(7);
        f.claim(7);
        Check.due("16 refused presses don't count", f.differs(), 3);
        f.unclaim();
        Check.due("16 no claim", f.differs(), 1);
        Desk g = Desk.onBoard(2, 2);
        g.cell(1, 0, 8);
        Edges.claimAll(g, 2, 0);
        g.press(2);
        g.press(0);
        Check.due("16 nothing is pressed behind the end", g.differs(), 2);
    }

    private static void promise17Split() {
        Desk f = Desk.onBoard(3, 2);
        int[][] wrong = {
            {-1, 0, 0, 1}, {3, 0, 0, 1}, {0, -1, 0, 1}, {0, 2, 0, 1}, {0, 0, -1, 1}, {0, 0, 0, 201},
            {0, 0, 2, 1}, {0, 0, 201, 201}, {0, 0, -2, -1}, {MIN, MAX, 0, 1}, {0, 0, MIN, MAX}, {0, 0, MAX, MIN}};
        for (int[] s : wrong) {
            Check.due("17 split " + s[0] + " " + s[1] + " " + s[2] + " " + s[3], f.split(s[0], s[1], s[2], s[3]), NONE);
        }
        Check.due("17 none came", f.count(4), 0);
        int[][] right = {{0, 0, 0, 0}, {2, 1, 0, 200}, {0, 0, 200, 200}, {2, 0, 5, 6}, {0, 1, 3, 3}};
        for (int i = 0; i < 5; i++) {
            Check.due("17 split number " + (i + 1), f.split(right[i][0], right[i][1], right[i][2], right[i][3]), i + 1);
        }
        Check.due("17 5 there are", f.split(0, 0, 0, 200), NONE);
        Check.due("17 five", f.count(4), 5);
        f.cell(0, 0, 1);
        f.foe(2, 1);
        f.start(1, 1);
        f.begin();
        Check.due("17 they stay", f.count(4), 5);
    }

    private static void promise18Unsplit() {
        Desk f = Desk.onBoard(3, 2);
        f.split(2, 1, 0, 0);
        f.split(0, 0, 0, 0);
        f.unsplit();
        Check.due("18 none", f.count(4), 0);
        Check.due("18 none could be", f.could(), 0);
        Check.due("18 the first again", f.split(0, 0, 0, 0), 1);
        Check.due("18 only the new one", f.could(), 1);
    }

    private static int couldOf(Desk f, int[]... splits) {
        f.unsplit();
        for (int[] s : splits) {
            f.split(s[0], s[1], s[2], s[3]);
        }
        return f.could();
    }

    private static void promise19Could() {
        Desk f = Desk.onBoard(4, 3);
        Check.due("19 none", couldOf(f), 0);
        Check.due("19 at the beginning", couldOf(f, new int[] {0, 0, 0, 0}), 1);
        Check.due("19 elsewhere at the beginning", couldOf(f, new int[] {1, 0, 0, 0}), 0);
        Check.due("19 too far", couldOf(f, new int[] {3, 2, 0, 4}), 0);
        Check.due("19 just in time", couldOf(f, new int[] {3, 2, 0, 5}), 1);
        Check.due("19 much later", couldOf(f, new int[] {3, 2, 200, 200}), 1);
        Check.due("19 in order", couldOf(f, new int[] {2, 0, 0, 9}, new int[] {0, 0, 0, 4}), 2);
        Check.due("19 not in order", couldOf(f, new int[] {2, 0, 0, 9}, new int[] {0, 0, 0, 3}), 1);
        Check.due("19 the first misses, so none", couldOf(f, new int[] {3, 2, 0, 4}, new int[] {0, 0, 0, 200}), 0);
        Check.due("19 one tick, one cell", couldOf(f, new int[] {1, 1, 2, 2}, new int[] {1, 1, 2, 2}, new int[] {1, 1, 0, 2}), 3);
        Check.due("19 one tick, two cells", couldOf(f, new int[] {1, 1, 2, 2}, new int[] {1, 0, 2, 2}), 1);
        Check.due("19 back in time", couldOf(f, new int[] {1, 1, 3, 3}, new int[] {1, 1, 2, 2}), 1);
        Check.due("19 five, to the last tick", couldOf(f, new int[] {0, 0, 0, 0}, new int[] {3, 0, 3, 3}, new int[] {3, 2, 5, 5},
            new int[] {0, 2, 8, 8}, new int[] {3, 2, 200, 200}), 5);
        f.press(2);
        f.press(2);
        Check.due("19 from the beginning, not the state at hand", couldOf(f, new int[] {3, 0, 1, 1}), 0);
        Check.due("19 the state stays", f.state(3), 2);
        f.start(2, 0);
        Check.due("19 from the beginning there is", couldOf(f, new int[] {3, 0, 1, 1}), 1);
    }

    private static void promise19CouldEdges() {
        Desk f = Desk.onBoard(4, 2);
        f.cell(1, 0, 8);
        f.cell(1, 1, 1);
        Check.due("19 on the goal as it ends", couldOf(f, new int[] {1, 0, 1, 9}, new int[] {1, 0, 1, 9}), 2);
        Check.due("19 not behind the end", couldOf(f, new int[] {1, 0, 1, 1}, new int[] {1, 0, 2, 9}), 1);
        Check.due("19 not past the goal", couldOf(f, new int[] {2, 0, 0, 200}), 0);
        f.start(1, 0);
        Check.due("19 begun on the goal", couldOf(f, new int[] {1, 0, 0, 0}, new int[] {2, 0, 1, 1}), 2);
        Desk g = Desk.onBoard(3, 2);
        g.foe(1, 0);
        g.cell(1, 1, 1);
        Check.due("19 caught at that tick", couldOf(g, new int[] {1, 0, 0, 200}), 0);
        Check.due("19 not past the foe", couldOf(g, new int[] {2, 0, 0, 200}), 0);
        g.foe(1, 0);
        g.foe(2, 1);
        Check.due("19 past it in time", couldOf(g, new int[] {1, 0, 2, 2}, new int[] {2, 0, 3, 3}), 2);
        Check.due("19 not sooner", couldOf(g, new int[] {1, 0, 1, 1}), 0);
        g.start(1, 0);
        Check.due("19 begun on the foe", couldOf(g, new int[] {1, 0, 0, 0}, new int[] {0, 0, 1, 1}), 2);
        Desk h = Desk.onBoard(3, 2);
        h.cell(1, 0, 5);
        h.cell(1, 1, 1);
        Check.due("19 a closed door", couldOf(h, new int[] {2, 0, 0, 200}), 0);
        h.cell(0, 1, 2);
        Check.due("19 by way of the key", couldOf(h, new int[] {2, 0, 0, 4}, new int[] {0, 1, 5, 7}), 2);
        Check.due("19 not before the key", couldOf(h, new int[] {2, 0, 0, 3}), 0);
        for (int key = 0; key < 3; key++) {
            h.cell(0, 1, 2 + key);
            for (int door = 0; door < 3; door++) {
                h.cell(1, 0, 5 + door);
                int want = key == door ? 1 : 0;
                Check.due("19 key " + key + ", door " + door, couldOf(h, new int[] {2, 0, 0, 4}), want);
            }
        }
    }

    private static void promise19CouldAtTheEdge() {
        Desk f = Desk.onBoard(8, 8);
        f.start(7, 3);
        Check.due("19 no step over the right edge", couldOf(f, new int[] {0, 4, 0, 7}), 0);
        Check.due("19 as far as it is", couldOf(f, new int[] {0, 4, 0, 8}), 1);
        f.start(0, 3);
        Check.due("19 no step over the left edge", couldOf(f, new int[] {7, 2, 0, 7}), 0);
        Check.due("19 as far as it is again", couldOf(f, new int[] {7, 2, 0, 8}), 1);
        f.start(3, 0);
        Check.due("19 no step over the upper edge", couldOf(f, new int[] {3, 7, 0, 6}), 0);
        Desk g = Desk.onBoard(3, 3);
        for (int i = 0; i < 3; i++) {
            g.cell(i, 1, 1);
        }
        Check.due("19 no way round a wall, right", couldOf(g, new int[] {2, 2, 0, 200}), 0);
        Desk h = Desk.onBoard(3, 3);
        for (int i = 0; i < 3; i++) {
            h.cell(1, i, 1);
        }
        Check.due("19 no way round a wall, below", couldOf(h, new int[] {2, 2, 0, 200}), 0);
        Desk k = Desk.onBoard(8, 8);
        k.cell(1, 1, 8);
        k.cell(0, 1, 1);
        k.board(3, 3);
        Check.due("19 a new board is floor", couldOf(k, new int[] {1, 1, 2, 2}, new int[] {0, 1, 3, 3}), 2);
    }

    private static void promise20Road() {
        Desk f = new Desk();
        int[][] wrong = {
            {-1, 0, 0, 0, 1, 8, 0, 1}, {10, 0, 0, 0, 1, 8, 0, 1}, {0, -1, 0, 0, 1, 8, 0, 1}, {0, 10, 0, 0, 1, 8, 0, 1},
            {0, 0, -1, 0, 1, 8, 0, 1}, {0, 0, 16, 0, 1, 8, 0, 1}, {0, 0, 0, -1, 1, 8, 0, 1}, {0, 0, 0, 16, 1, 8, 0, 1},
            {0, 0, 0, 0, 0, 8, 0, 1}, {0, 0, 0, 0, 101, 8, 0, 1}, {0, 0, 0, 0, 1, 0, 0, 1}, {0, 0, 0, 0, 1, 9, 0, 1},
            {0, 0, 0, 0, 1, 7, -1, 1}, {0, 0, 0, 0, 1, 7, 10, 1}, {0, 0, 0, 0, 1, 1, 0, 0}, {0, 0, 0, 0, 1, 1, 0, 101},
            {MIN, MAX, MIN, MAX, MIN, MAX, MIN, MAX}};
        for (int i = 0; i < wrong.length; i++) {
            Check.due("20 wrong road " + i, addRoad(f, wrong[i]), NONE);
        }
        Check.due("20 none came", f.count(5), 0);
        int[][] right = {
            {9, 9, 15, 15, 100, 1, 9, 100}, {0, 0, 0, 0, 1, 7, 0, 1}, {0, 1, 0, 0, 1, 8, MIN, MAX}, {1, 2, 0, 0, 1, 8, MAX, MIN}};
        for (int i = 0; i < right.length; i++) {
            Check.due("20 road " + i, addRoad(f, right[i]), i);
        }
        f.goal(2, 0);
        Check.due("20 of sure ones the failing isn't looked at", f.chance(0, 0, 2), ALL);
        f.chance(0, 0, 300);
        Check.due("20 a shorter one", f.road(0, 2, 0, 0, 1, 8, 0, 0), 4);
        Check.due("20 it counts at once", f.chance(0, 0, 1), ALL);
        for (int i = 5; i < 40; i++) {
            Check.due("20 road " + i, f.road(i % 10, 3, 0, 0, 100, 8, 0, 0), i);
        }
        Check.due("20 there are 40", f.road(0, 1, 0, 0, 1, 8, 0, 0), NONE);
        Check.due("20 forty", f.count(5), 40);
    }

    private static int addRoad(Desk f, int[] r) {
        return f.road(r[0], r[1], r[2], r[3], r[4], r[5], r[6], r[7]);
    }

    private static void promise21Bar() {
        Desk f = new Desk();
        Check.due("21 no roads", f.bar(0, true), false);
        f.goal(1, 0);
        f.road(0, 1, 0, 0, 5, 8, 0, 0);
        f.road(0, 1, 0, 0, 9, 8, 0, 0);
        for (int wrong : new int[] {-1, 2, 40, MIN, MAX}) {
            Check.due("21 bar " + wrong, f.bar(wrong, true), false);
        }
        Check.due("21 open", f.sure(), 5);
        Check.due("21 open: choice", f.choice(0, 0, 9), 0);
        Check.due("21 barred", f.bar(0, true), true);
        Check.due("21 barred: sure", f.sure(), 9);
        Check.due("21 barred: chance", f.chance(0, 0, 8), 0);
        Check.due("21 barred: choice", f.choice(0, 0, 9), 1);
        Check.due("21 it is still a road", f.count(5), 2);
        Check.due("21 barred again", f.bar(0, true), true);
        Check.due("21 still barred", f.sure(), 9);
        Check.due("21 no more barred", f.bar(0, false), true);
        Check.due("21 no more barred: sure", f.sure(), 5);
        Check.due("21 no more barred: chance", f.chance(0, 0, 8), ALL);
    }

    private static void promise22Goal() {
        Desk f = new Desk();
        f.road(0, 3, 0, 5, 1, 8, 0, 0);
        int[][] wrong = {{-1, 0}, {10, 0}, {0, -1}, {0, 16}, {MIN, MAX}};
        for (int[] g : wrong) {
            Check.due("22 goal " + g[0] + " " + g[1], f.goal(g[0], g[1]), false);
        }
        Check.due("22 refused goals change nothing", f.sure(), 0);
        Check.due("22 goal 9 15", f.goal(9, 15), true);
        Check.due("22 things are needed", f.chance(9, 14, 300), 0);
        Check.due("22 met", f.chance(9, 15, 0), ALL);
        Check.due("22 goal 3 4", f.goal(3, 4), true);
        Check.due("22 with these at least", f.sure(), 1);
        Check.due("22 more than these", f.chance(3, 15, 0), ALL);
        Check.due("22 without these", f.chance(3, 11, 300), 0);
        Check.due("22 by the road", f.chance(0, 0, 1), ALL);
        Check.due("22 goal 3 2", f.goal(3, 2), true);
        Check.due("22 others than these", f.sure(), NONE);
        Check.due("22 at once", f.chance(0, 0, 300), 0);
        f.board(3, 3);
        Check.due("22 a board leaves it", f.sure(), NONE);
    }

    private static void promise23Anew() {
        Desk f = new Desk();
        f.goal(1, 0);
        f.road(0, 1, 0, 0, 10, 8, 0, 0);
        Check.due("23 not allowed at first", f.chance(5, 3, 300), 0);
        Check.due("23 price 100", f.anew(100), true);
        for (int wrong : new int[] {-1, 101, MIN, MAX}) {
            Check.due("23 price " + wrong, f.anew(wrong), false);
        }
        Check.due("23 just enough", f.chance(5, 3, 110), ALL);
        Check.due("23 too few", f.chance(5, 3, 109), 0);
        Check.due("23 price 1", f.anew(1), true);
        Check.due("23 at once", f.chance(5, 3, 11), ALL);
        Check.due("23 choice", f.choice(5, 3, 11), -2);
        Check.due("23 price 0", f.anew(0), true);
        Check.due("23 not allowed", f.chance(5, 3, 300), 0);
        Check.due("23 not allowed: choice", f.choice(5, 3, 300), NONE);
        f.anew(2);
        f.goal(0, 0);
        Check.due("23 the goal is the beginning", f.chance(4, 0, 2), ALL);
        Check.due("23 not yet", f.chance(4, 0, 1), 0);
        f.goal(0, 8);
        Check.due("23 without things", f.chance(4, 8, 300), 0);
    }

    private static void promise24Sure() {
        Desk f = new Desk();
        Check.due("24 met", f.sure(), 0);
        f.goal(4, 3);
        Check.due("24 no roads", f.sure(), NONE);
        f.road(0, 4, 0, 0, 1, 8, 0, 0);
        Check.due("24 there without the things", f.sure(), NONE);
        f.road(4, 4, 0, 1, 20, 8, 0, 0);
        f.road(4, 0, 1, 2, 30, 8, 0, 0);
        Check.due("24 there and back", f.sure(), 1 + 20 + 30 + 1);
        f.road(0, 4, 0, 3, 10, 7, 0, 1);
        Check.due("24 by sure roads alone", f.sure(), 52);
        f.road(0, 0, 0, 3, 50, 8, 0, 0);
        Check.due("24 the fewest", f.sure(), 51);
        f.road(4, 0, 3, 0, 1, 8, 0, 0);
        Check.due("24 needs are held", f.sure(), 51);
        f.anew(1);
        f.road(5, 4, 0, 3, 1, 8, 0, 0);
        Check.due("24 from room 0", f.sure(), 51);
        f.bar(4, true);
        f.bar(1, true);
        Check.due("24 no such way", f.sure(), NONE);
        Desk g = new Desk();
        for (int room = 8; room >= 0; room--) {
            g.road(room, room + 1, 0, 0, 100, 8, 0, 0);
        }
        g.goal(9, 0);
        Check.due("24 a long way, told from its end", g.sure(), 900);
        Desk h = new Desk();
        h.road(0, 1, 0, 0, 5, 8, 0, 0);
        h.road(1, 0, 0, 1, 5, 8, 0, 0);
        h.road(0, 2, 1, 0, 5, 8, 0, 0);
        h.goal(0, 0);
        Check.due("24 met at the beginning", h.sure(), 0);
        h.goal(2, 0);
        Check.due("24 the things are kept", h.sure(), 15);
    }

    private static void promise25Chance() {
        Desk f = new Desk();
        int[][] wrong = {{-1, 0, 0}, {10, 0, 0}, {0, -1, 0}, {0, 16, 0}, {0, 0, -1}, {0, 0, 301}, {MIN, MAX, MIN}, {0, 0, MAX}};
        for (int[] c : wrong) {
            Check.due("25 chance " + c[0] + " " + c[1] + " " + c[2], f.chance(c[0], c[1], c[2]), NONE);
        }
        Check.due("25 met with 300 left", f.chance(0, 15, 300), ALL);
        f.goal(2, 0);
        Check.due("25 no roads", f.chance(0, 0, 300), 0);
        f.road(0, 2, 0, 0, 10, 3, 1, 4);
        Check.due("25 odds 3 of 8", f.chance(0, 0, 10), ALL / 8 * 3);
        Check.due("25 a tick too few", f.chance(0, 0, 9), 0);
        f.road(1, 2, 0, 0, 7, 4, 1, 100);
        Check.due("25 fails too late", f.chance(0, 0, 10), ALL / 8 * 3);
        Check.due("25 fails in time", f.chance(0, 0, 11), ALL / 8 * 3 + ALL / 8 * 5 / 2);
        Check.due("25 fails once more, to 4 left", f.chance(1, 0, 104), ALL / 2);
        Check.due("25 fails once more, to 7 left", f.chance(1, 0, 107), ALL / 4 * 3);
        f.road(0, 2, 1, 0, 1, 8, 0, 0);
        Check.due("25 needs lacked", f.chance(0, 2, 9), 0);
        Check.due("25 needs had", f.chance(0, 3, 1), ALL);
        f.road(0, 0, 2, 1, 2, 4, 0, 6);
        Check.due("25 gives if it succeeds", f.chance(0, 2, 3), ALL / 2);
        Check.due("25 nothing given if it fails", f.chance(0, 2, 7), ALL / 2);
        Check.due("25 a second try", f.chance(0, 2, 9), ALL / 4 * 3);
        f.anew(3);
        Check.due("25 anew is one of them", f.chance(7, 2, 13), ALL / 8 * 3);
        Check.due("25 fewer left behind more", f.chance(7, 2, 12), 0);
    }

    private static void promise25Cut() {
        Desk f = new Desk();
        f.goal(1, 0);
        f.road(0, 1, 0, 0, 1, 1, 0, 1);
        long want = 0;
        for (int left = 1; left <= 300; left++) {
            want = (ALL + 7 * want) / 8;
            Check.due("25 cut with " + left + " left", f.chance(0, 0, left), want);
        }
        Check.due("25 never all of it", want < ALL, true);
    }

    private static void promise26Choice() {
        Desk f = new Desk();
        int[][] wrong = {{-1, 0, 0}, {10, 0, 0}, {0, -1, 0}, {0, 16, 0}, {0, 0, -1}, {0, 0, 301}, {MAX, MIN, MAX}};
        for (int[] c : wrong) {
            Check.due("26 choice " + c[0] + " " + c[1] + " " + c[2], f.choice(c[0], c[1], c[2]), -3);
        }
        Check.due("26 met", f.choice(0, 0, 300), NONE);
        f.goal(1, 0);
        Check.due("26 no roads", f.choice(0, 0, 300), NONE);
        f.road(0, 1, 0, 0, 10, 4, 0, 10);
        f.road(0, 1, 0, 0, 20, 8, 0, 0);
        f.road(0, 1, 0, 0, 5, 4, 0, 10);
        f.road(0, 1, 8, 0, 1, 8, 0, 0);
        Check.due("26 chance 0", f.choice(0, 0, 4), NONE);
        Check.due("26 the only one in time", f.choice(0, 0, 5), 2);
        Check.due("26 of two alike the first", f.choice(0, 0, 10), 0);
        Check.due("26 the greater one", f.choice(0, 0, 20), 1);
        Check.due("26 with the thing", f.choice(0, 8, 9), 3);
        Check.due("26 a trick that may fail, as the sure one is left then", f.choice(0, 8, 11), 0);
        f.bar(0, true);
        Check.due("26 barred", f.choice(0, 0, 10), 2);
        f.anew(10);
        f.road(2, 0, 0, 0, 10, 8, 0, 0);
        Check.due("26 anew only if it is greater", f.choice(2, 0, 30), 4);
        Check.due("26 anew only if it is greater: chance", f.chance(2, 0, 30), ALL);
        f.anew(9);
        Check.due("26 alike, so the road", f.choice(2, 0, 30), 4);
        Check.due("26 greater, so anew", f.choice(2, 0, 29), -2);
        Check.due("26 greater: chance", f.chance(2, 0, 29), ALL);
        Check.due("26 only anew", f.choice(3, 0, 29), -2);
        Check.due("26 met: no anew", f.choice(1, 0, 29), NONE);
    }

    private static void promise27Count() {
        Desk f = Desk.onBoard(7, 3);
        f.foe(0, 0);
        f.foe(1, 0);
        Edges.claimAll(f, 1, 2, 3);
        f.split(0, 0, 0, 0);
        for (int i = 0; i < 5; i++) {
            f.road(0, 0, 0, 0, 1, 8, 0, 0);
        }
        int[] want = {7, 3, 2, 3, 1, 5};
        for (int what = 0; what < want.length; what++) {
            Check.due("27 count " + what, f.count(what), want[what]);
        }
        for (int wrong : new int[] {-1, 6, MIN, MAX}) {
            Check.due("27 count " + wrong, f.count(wrong), NONE);
        }
    }
}
