import java.util.Random;

/** The edges of the desk as a whole: its counts (promise 27), its 512 calls, and calls with any numbers at all. */
public final class DeskEdgeTests {
    private static final int NONE = FastestRun.NONE;
    private static final int[] WILD = {
        Integer.MIN_VALUE, Integer.MIN_VALUE + 1, -(1 << 29), -65536, -512, -101, -3, -2, -1, 0, 1, 2, 3, 4, 5, 6, 7, 8, 9,
        10, 15, 16, 39, 40, 41, 64, 99, 100, 101, 199, 200, 201, 255, 256, 299, 300, 301, 399, 400, 401, 499, 500, 501,
        512, 65536, 1 << 28, 1 << 29, 1 << 30, Integer.MAX_VALUE - 1, Integer.MAX_VALUE};

    public static void main(String[] args) {
        none();
        countsThereAre();
        countsAtTheirEdges();
        countChangesNothing();
        theLivedInDesk();
        call512OfARun();
        call512OfAClaim();
        call512OfRoads();
        anyNumbers();
        laterCallsEnd();
        Check.end();
    }

    private static void none() {
        Check.sentence("The public face: public static final int NONE = -1");
        Check.due("NONE", FastestRun.NONE, -1);
    }

    private static void dueCounts(String when, Desk f, int... want) {
        for (int what = 0; what < want.length; what++) {
            Check.due(when + ": count(" + what + ")", f.count(what), want[what]);
        }
    }

    private static void countsThereAre() {
        Check.sentence("Promise 27: 0 W, 1 H, 2 CELLS of the ROUND, 3 PRESSES of the CLAIM, 4 SPLITS, 5 ROADS. NONE for another what.");
        Desk f = new Desk();
        dueCounts("new", f, 2, 2, 0, 0, 0, 0);
        for (int wrong : Edges.outside(0, 5)) {
            Check.due("count(" + wrong + ")", f.count(wrong), NONE);
        }
        f.board(7, 3);
        dueCounts("a board", f, 7, 3, 0, 0, 0, 0);
        f.foe(6, 2);
        dueCounts("a cell of the round", f, 7, 3, 1, 0, 0, 0);
        f.claim(0);
        dueCounts("a claimed press", f, 7, 3, 1, 1, 0, 0);
        f.split(6, 2, 0, 0);
        dueCounts("a split", f, 7, 3, 1, 1, 1, 0);
        f.road(0, 0, 0, 0, 1, 8, 0, 0);
        dueCounts("a road", f, 7, 3, 1, 1, 1, 1);
        f.press(2);
        f.save(0);
        f.begin();
        dueCounts("a run", f, 7, 3, 1, 1, 1, 1);
    }

    private static void countsAtTheirEdges() {
        Check.sentence("Promise 27: W, H (2 .. 8), CELLS of the ROUND (0 .. 6), PRESSES of the CLAIM (400 at most), SPLITS (5), ROADS (40)");
        Desk f = Desk.onBoard(8, 8);
        for (int i = 0; i < 401; i++) {
            f.claim(0);
        }
        for (int i = 0; i < 41; i++) {
            f.road(0, 0, 0, 0, 1, 8, 0, 0);
        }
        for (int i = 0; i < 7; i++) {
            f.foe(7, 7);
            f.split(0, 0, 0, 200);
        }
        dueCounts("all full", f, 8, 8, 6, 400, 5, 40);
        f.board(2, 8);
        dueCounts("another board", f, 2, 8, 0, 0, 0, 40);
    }

    private static void countChangesNothing() {
        Check.sentence("Promise 27: NONE for another what.");
        for (int what = -1; what <= 6; what++) {
            int told = what;
            Twins.dueUnchanged("count(" + what + ")", Twins::livedIn, d -> d.count(told));
        }
    }

    /** If the desk that twins live in were not what it is meant to be, they would miss nothing. */
    private static void theLivedInDesk() {
        Check.sentence("the desk of the twins");
        Desk f = new Desk();
        Twins.livedIn(f);
        dueCounts("lived in", f, 4, 3, 3, 3, 4, 6);
        Edges.dueState("lived in", f, 1, 0, 1, 4, 0);
        Edges.dueFoe("lived in", f, 2, 2);
        Check.due("differs()", f.differs(), 4);
        Check.due("prove(3)", f.prove(3), 4);
        Check.due("could()", f.could(), 4);
        Check.due("sure()", f.sure(), 21);
        Check.due("chance(0, 0, 6)", f.chance(0, 0, 6), Edges.ALL / 8 * 3 + Edges.ALL / 8 * 5 / 4);
        Edges.dueRow("its row", f, 1, 2, 2, 2, 3);
        f.back(0);
        Edges.dueState("kept at 0", f, 2, 0, 1, 3, 0);
        Check.due("kept at 0: differs()", f.differs(), NONE);
        f.back(2);
        Edges.dueState("kept at 2", f, 3, 0, 1, 4, 0);
    }

    private static void call512OfARun() {
        Check.sentence("An object is used for at most 512 calls after it has been made");
        Desk f = Desk.onBoard(3, 2);
        f.cell(2, 0, 8);
        f.foe(1, 1);
        f.foe(1, 0);
        Edges.idle(f, 500);
        while (f.callsLeft() > 1) {
            Check.due("500 pressed: press(2)", f.press(2), NONE);
        }
        Check.due("the 512th: state(3)", f.state(3), 500);
        Desk g = Desk.onBoard(3, 2);
        g.cell(2, 0, 8);
        while (g.callsLeft() > 14) {
            g.begin();
            g.press(3);
        }
        g.begin();
        while (g.callsLeft() > 1) {
            Check.due("late: least()", g.least(), 2);
        }
        Check.due("the 512th: best(1)", g.best(1), 2);
    }

    private static void call512OfAClaim() {
        Check.sentence("An object is used for at most 512 calls after it has been made");
        Desk f = new Desk();
        f.cell(1, 0, 8);
        f.split(1, 0, 200, 200);
        Edges.claimWaits(f, 399);
        f.claim(2);
        while (f.callsLeft() > 1) {
            Check.due("late: could()", f.could(), 1);
        }
        Check.due("the 512th: prove(400)", f.prove(400), 0);
    }

    private static void call512OfRoads() {
        Check.sentence("An object is used for at most 512 calls after it has been made");
        Desk f = new Desk();
        f.goal(1, 0);
        for (int i = 0; i < 40; i++) {
            f.road(0, 1, 0, 0, 100 - i, 8, 0, 0);
        }
        while (f.callsLeft() > 4) {
            f.bar(39, true);
            Check.due("the last barred: chance(0, 0, 61)", f.chance(0, 0, 61), 0);
            f.bar(39, false);
        }
        while (f.callsLeft() > 1) {
            Check.due("late: sure()", f.sure(), 61);
        }
        Check.due("the 512th: chance(0, 0, 61)", f.chance(0, 0, 61), Edges.ALL);
        Desk g = new Desk();
        g.goal(1, 0);
        g.road(0, 1, 0, 0, 100, 4, 0, 100);
        while (g.callsLeft() > 1) {
            g.anew(g.callsLeft() % 101);
        }
        Check.due("the 512th: chance(0, 0, 300)", g.chance(0, 0, 300), Edges.ALL / 8 * 7);
    }

    /** Often small ones, as calls with eight wild numbers would hardly ever be taken. */
    private static int[] wildArguments(Random random) {
        int[] arguments = new int[8];
        for (int k = 0; k < arguments.length; k++) {
            arguments[k] = random.nextInt(5) < 3 ? random.nextInt(5) : WILD[random.nextInt(WILD.length)];
        }
        return arguments;
    }

    /** Whatever numbers are told, a call answers, and as the slow model does. */
    private static void anyNumbers() {
        Check.sentence("a call with any numbers");
        for (int seed = 0; seed < 400 && !Check.failed(); seed++) {
            Random random = new Random(seed);
            Desk f = new Desk();
            SlowModel m = new SlowModel();
            while (f.callsLeft() > 0 && !Check.failed()) {
                int call = random.nextInt(AnyCall.CALLS);
                int[] a = wildArguments(random);
                String when = "seed " + seed + ", call " + call + ", " + f.callsLeft() + " left";
                Check.due(when, AnyCall.answer(f, call, a), AnyCall.answer(m, call, a));
            }
        }
    }

    private static void laterCallsEnd() {
        Check.sentence("what later calls answer is free (but they end, and throw nothing)");
        for (int seed = 0; seed < 20; seed++) {
            Random random = new Random(seed);
            Desk f = Desk.withoutEnd();
            int ended = 0;
            for (int i = 0; i < 5000; i++) {
                AnyCall.answer(f, random.nextInt(AnyCall.CALLS), wildArguments(random));
                ended++;
            }
            Check.due("seed " + seed + ": calls that ended", ended, 5000);
        }
    }
}
