/** The edges of claims and splits; promises 13 to 19. */
public final class ClaimEdgeTests {
    private static final int NONE = FastestRun.NONE;

    public static void main(String[] args) {
        pressesOfAClaim();
        fourHundredOfAClaim();
        refusedClaimChangesNothing();
        fullClaimChangesNothing();
        unclaimEmpties();
        unclaimLeavesTheRest();
        endedAtTheTickTold();
        endedAtAnotherTick();
        endedAheadOfItsLast();
        claimIsCaught();
        claimGoesOn();
        emptyClaim();
        fullClaimPlayed();
        playedFromTheBeginning();
        proveChangesNothing();
        claimAndRunAlike();
        firstTickThatDiffers();
        oneOfThemHasNone();
        differsInLongOnes();
        cellsOfASplit();
        ticksOfASplit();
        fiveSplits();
        refusedSplitChangesNothing();
        sixthSplitChangesNothing();
        unsplitLeavesNone();
        noSplits();
        tickNoughtIsTheBeginning();
        firstAndLastTickOfASplit();
        eachCellAtItsTick();
        noWayOffTheBoard();
        tickTwoHundred();
        atTheSameTickOrLater();
        notCaughtByThen();
        notChangedPlacesByThen();
        notBehindTheEnd();
        endAtTheBeginning();
        keysAndDoorsOfSplits();
        howManyOfTheFirst();
        couldChangesNothing();
        Check.end();
    }

    private static void pressesOfAClaim() {
        Check.sentence("Promise 13: A PRESS comes to the CLAIM: how many; NONE: no such PRESS");
        Desk f = new Desk();
        for (int wrong : Edges.outside(0, 4)) {
            Check.due("none yet: claim(" + wrong + ")", f.claim(wrong), NONE);
        }
        Check.due("none came: count(3)", f.count(3), 0);
        for (int press = 0; press <= 4; press++) {
            Check.due("claim(" + press + ")", f.claim(press), press + 1);
            Check.due("claim(" + press + "): count(3)", f.count(3), press + 1);
        }
        for (int wrong : Edges.outside(0, 4)) {
            Check.due("five there: claim(" + wrong + ")", f.claim(wrong), NONE);
        }
        Check.due("none came: count(3)", f.count(3), 5);
    }

    private static void fourHundredOfAClaim() {
        Check.sentence("Promise 13: NONE: 400 there are.");
        Desk f = new Desk();
        for (int i = 1; i <= 400; i++) {
            Check.due("number " + i + ": claim(" + i % 5 + ")", f.claim(i % 5), i);
        }
        for (int press = -1; press <= 5; press++) {
            Check.due("400 there are: claim(" + press + ")", f.claim(press), NONE);
        }
        Check.due("count(3)", f.count(3), 400);
        f.unclaim();
        Check.due("empty again: count(3)", f.count(3), 0);
        Check.due("empty again: claim(4)", f.claim(4), 1);
        Desk g = new Desk();
        Edges.claimWaits(g, 400);
        g.board(2, 2);
        Check.due("another board: claim(4)", g.claim(4), 1);
    }

    private static void refusedClaimChangesNothing() {
        Check.sentence("Promise 13: NONE: no such PRESS");
        for (int wrong : Edges.outside(0, 4)) {
            Twins.dueUnchanged("claim(" + wrong + ")", Twins::livedIn, d -> d.claim(wrong));
        }
    }

    private static void fullClaimChangesNothing() {
        Check.sentence("Promise 13: NONE: 400 there are.");
        for (int press = -1; press <= 5; press++) {
            int told = press;
            Twins.dueUnchanged("401st: claim(" + press + ")", d -> Edges.claimWaits(d, 400), d -> d.claim(told));
        }
    }

    private static void unclaimEmpties() {
        Check.sentence("Promise 14: The CLAIM is empty.");
        Desk f = new Desk();
        f.cell(1, 0, 8);
        f.unclaim();
        Check.due("empty before: count(3)", f.count(3), 0);
        Edges.claimAll(f, 3, 2, 1);
        f.unclaim();
        Check.due("count(3)", f.count(3), 0);
        Check.due("prove(0)", f.prove(0), 4);
        Check.due("differs()", f.differs(), NONE);
        Check.due("the first again: claim(2)", f.claim(2), 1);
        Check.due("nothing of the old ones: prove(1)", f.prove(1), 0);
    }

    private static void unclaimLeavesTheRest() {
        Check.sentence("Promise 14: The CLAIM is empty.");
        Desk f = new Desk();
        Twins.livedIn(f);
        f.unclaim();
        dueRestOfLivedIn(f, 0, 4);
        Twins.dueUnchanged("an empty claim: unclaim()", ClaimEdgeTests::livedInUnclaimed, d -> d.unclaim());
        Twins.dueUnchanged("a claim more, and unclaim()", ClaimEdgeTests::livedInUnclaimed, d -> {
            d.claim(3);
            d.unclaim();
        });
    }

    private static void livedInUnclaimed(Desk d) {
        Twins.livedIn(d);
        d.unclaim();
    }

    private static void dueRestOfLivedIn(Desk f, int claimed, int splits) {
        int[] counts = {4, 3, 3, claimed, splits, 6};
        for (int what = 0; what < counts.length; what++) {
            Check.due("count(" + what + ")", f.count(what), counts[what]);
        }
        Edges.dueState("the state stays", f, 1, 0, 1, 4, 0);
        Check.due("its presses stay: differs()", f.differs(), claimed + 1);
        Check.due("could()", f.could(), splits);
        Edges.dueRow("the row stays", f, 1, 2, 2, 2, 3);
        Check.due("what is kept stays: back(0)", f.back(0), true);
        Check.due("what is kept stays: back(2)", f.back(2), true);
        Check.due("sure()", f.sure(), 21);
    }

    /** A board on which 2, 2 leads to the goal. */
    private static Desk goalAtTwo(int... claim) {
        Desk f = Desk.onBoard(4, 2);
        f.cell(2, 0, 8);
        Edges.claimAll(f, claim);
        return f;
    }

    private static void endedAtTheTickTold() {
        Check.sentence("Promise 15: 0 it has ENDED with its last PRESS, at the TICK told");
        Check.due("prove(2)", goalAtTwo(2, 2).prove(2), 0);
        Check.due("prove(3)", goalAtTwo(0, 2, 2).prove(3), 0);
        Desk f = new Desk();
        f.cell(0, 0, 8);
        f.claim(0);
        Check.due("the first tick, on the goal where it begins: prove(1)", f.prove(1), 0);
    }

    private static void endedAtAnotherTick() {
        Check.sentence("Promise 15: 1 it has, at another one");
        Desk f = goalAtTwo(2, 2);
        for (int ticks : Edges.outside(2, 2)) {
            Check.due("prove(" + ticks + ")", f.prove(ticks), 1);
        }
        Check.due("prove(0)", f.prove(0), 1);
    }

    private static void endedAheadOfItsLast() {
        Check.sentence("Promise 15: 2 ahead of its last PRESS");
        for (int ticks = -1; ticks <= 5; ticks++) {
            Check.due("one behind: prove(" + ticks + ")", goalAtTwo(2, 2, 0).prove(ticks), 2);
            Check.due("two behind: prove(" + ticks + ")", goalAtTwo(2, 2, 4, 2).prove(ticks), 2);
        }
    }

    private static void claimIsCaught() {
        Check.sentence("Promise 15: 3 CAUGHT");
        for (int ticks = -1; ticks <= 4; ticks++) {
            Desk f = goalAtTwo(3, 2);
            f.foe(1, 1);
            Check.due("with its last: prove(" + ticks + ")", f.prove(ticks), 3);
            Edges.claimAll(f, 1, 2);
            Check.due("ahead of its last: prove(" + ticks + ")", f.prove(ticks), 3);
            Desk g = goalAtTwo(2, 2);
            g.foe(2, 0);
            Check.due("on the goal: prove(" + ticks + ")", g.prove(ticks), 3);
            Desk h = goalAtTwo(2);
            h.foe(1, 0);
            h.foe(0, 0);
            Check.due("changed places with the first: prove(" + ticks + ")", h.prove(ticks), 3);
        }
        Desk k = goalAtTwo(2, 2, 2);
        k.foe(3, 1);
        k.foe(3, 1);
        k.foe(3, 1);
        k.foe(3, 0);
        Check.due("a foe behind the end comes too late: prove(2)", k.prove(2), 2);
    }

    private static void claimGoesOn() {
        Check.sentence("Promise 15: 4 it goes on behind it");
        for (int ticks = -1; ticks <= 3; ticks++) {
            Check.due("one before the goal: prove(" + ticks + ")", goalAtTwo(2).prove(ticks), 4);
            Check.due("past it: prove(" + ticks + ")", goalAtTwo(3, 2, 2, 2, 1).prove(ticks), 4);
        }
    }

    private static void emptyClaim() {
        Check.sentence("Promise 15: 4 it goes on behind it (an empty CLAIM; at the beginning nothing has happened)");
        int[] ticks = {0, 1, -1, Integer.MIN_VALUE, Integer.MAX_VALUE};
        for (int told : ticks) {
            Check.due("empty: prove(" + told + ")", goalAtTwo().prove(told), 4);
            Desk f = new Desk();
            f.cell(0, 0, 8);
            Check.due("empty, on the goal: prove(" + told + ")", f.prove(told), 4);
            Desk g = new Desk();
            g.foe(0, 0);
            Check.due("empty, with the foe: prove(" + told + ")", g.prove(told), 4);
        }
    }

    private static void fullClaimPlayed() {
        Check.sentence("Terms: CLAIMS: a row of PRESSES (400 at most), played from the beginning");
        Desk f = new Desk();
        f.cell(1, 0, 8);
        Edges.claimWaits(f, 399);
        Check.due("399: prove(399)", f.prove(399), 4);
        f.claim(2);
        Check.due("ended with the last: prove(400)", f.prove(400), 0);
        Check.due("ended with the last: prove(399)", f.prove(399), 1);
        Check.due("ended with the last: prove(401)", f.prove(401), 1);
        f.claim(0);
        Check.due("no 401st is played: prove(400)", f.prove(400), 0);
        f.cell(1, 0, 0);
        Check.due("goes on: prove(400)", f.prove(400), 4);
        f.foe(1, 0);
        Check.due("caught with the last: prove(400)", f.prove(400), 3);
        Desk g = new Desk();
        g.cell(1, 0, 8);
        Edges.claimWaits(g, 398);
        Edges.claimAll(g, 2, 0);
        Check.due("ended ahead of the last: prove(399)", g.prove(399), 2);
        Check.due("ended ahead of the last: prove(400)", g.prove(400), 2);
    }

    private static void playedFromTheBeginning() {
        Check.sentence("Terms: CLAIMS: played from the beginning");
        Desk f = goalAtTwo(2, 2);
        f.press(2);
        Check.due("from the beginning, not from the state at hand: prove(2)", f.prove(2), 0);
        f.press(2);
        Check.due("the run has ended: prove(2)", f.prove(2), 0);
        f.start(1, 0);
        Check.due("from another one: prove(2)", f.prove(2), 2);
        f.start(0, 1);
        Check.due("from another one: prove(2)", f.prove(2), 4);
        Desk g = goalAtTwo(2, 2);
        g.foe(0, 1);
        g.press(3);
        Check.due("the run is caught: prove(2)", g.prove(2), 0);
        Desk h = Desk.onBoard(4, 2);
        h.cell(0, 1, 2);
        h.cell(1, 0, 5);
        h.cell(2, 0, 8);
        h.press(3);
        Edges.claimAll(h, 2, 2);
        Check.due("without the run's keys: prove(2)", h.prove(2), 4);
    }

    private static void proveChangesNothing() {
        Check.sentence("Promise 15: The CLAIM is played");
        for (int ticks : new int[] {-1, 0, 3}) {
            Twins.dueUnchanged("prove(" + ticks + ")", Twins::livedIn, d -> d.prove(ticks));
        }
    }

    private static void claimAndRunAlike() {
        Check.sentence("Promise 16: NONE: they are alike.");
        Desk f = Desk.onBoard(3, 3);
        Check.due("both empty: differs()", f.differs(), NONE);
        for (int press = 0; press <= 4; press++) {
            f.press(press);
            f.claim(press);
            Check.due("alike up to " + press + ": differs()", f.differs(), NONE);
        }
        Desk g = new Desk();
        g.cell(1, 0, 8);
        g.press(2);
        g.claim(2);
        Check.due("ended, alike: differs()", g.differs(), NONE);
        g.press(0);
        Check.due("a refused press is none: differs()", g.differs(), NONE);
        g.claim(5);
        Check.due("a refused claim is none: differs()", g.differs(), NONE);
    }

    private static void firstTickThatDiffers() {
        Check.sentence("Promise 16: The first TICK (from 1 on) at which the CLAIM's PRESS is not that of the STATE at hand");
        for (int tick = 1; tick <= 4; tick++) {
            Desk f = Desk.onBoard(3, 3);
            for (int i = 1; i <= 4; i++) {
                f.press(1);
                f.claim(i == tick || i == 4 ? 0 : 1);
            }
            Check.due("other at " + tick + " and at 4: differs()", f.differs(), tick);
        }
        Desk g = Desk.onBoard(3, 3);
        g.press(1);
        g.claim(4);
        Check.due("the presses, not what they led to: differs()", g.differs(), 1);
    }

    private static void oneOfThemHasNone() {
        Check.sentence("Promise 16: or one of them has none");
        Desk f = Desk.onBoard(3, 3);
        f.press(0);
        Check.due("a run of one, no claim: differs()", f.differs(), 1);
        f.claim(0);
        f.claim(0);
        Check.due("a claim of two: differs()", f.differs(), 2);
        f.begin();
        Check.due("no run, a claim of two: differs()", f.differs(), 1);
        Edges.idle(f, 3);
        Check.due("a run of three: differs()", f.differs(), 3);
    }

    private static void differsInLongOnes() {
        Check.sentence("Promise 16: The first TICK at which .. one of them has none");
        Desk f = new Desk();
        Edges.idle(f, 250);
        Edges.claimWaits(f, 250);
        Check.due("250 each: differs()", f.differs(), NONE);
        f.press(0);
        Check.due("251 and 250: differs()", f.differs(), 251);
        Desk g = new Desk();
        Edges.claimWaits(g, 400);
        Check.due("400 and none: differs()", g.differs(), 1);
        Edges.idle(g, 100);
        Check.due("400 and 100: differs()", g.differs(), 101);
        Desk h = new Desk();
        Edges.idle(h, 500);
        Edges.claimWaits(h, 9);
        Check.due("9 and 500: differs()", h.differs(), 10);
    }

    private static void cellsOfASplit() {
        Check.sentence("Promise 17: NONE: it can't be (no such CELL)");
        int[][] sizes = {{2, 2}, {8, 8}, {2, 8}, {8, 2}, {4, 5}};
        for (int[] size : sizes) {
            Desk f = Desk.onBoard(size[0], size[1]);
            for (int x = -1; x <= size[0]; x++) {
                for (int y = -1; y <= size[1]; y++) {
                    boolean there = x >= 0 && x < size[0] && y >= 0 && y < size[1];
                    f.unsplit();
                    String call = "of " + size[0] + " by " + size[1] + ": split(" + x + ", " + y + ", 0, 0)";
                    Check.due(call, f.split(x, y, 0, 0), there ? 1 : NONE);
                }
            }
        }
        Desk g = Desk.onBoard(8, 8);
        for (int wrong : Edges.outside(0, 7)) {
            Check.due("split(" + wrong + ", 0, 0, 0)", g.split(wrong, 0, 0, 0), NONE);
            Check.due("split(0, " + wrong + ", 0, 0)", g.split(0, wrong, 0, 0), NONE);
        }
        Check.due("none came: count(4)", g.count(4), 0);
    }

    private static void ticksOfASplit() {
        Check.sentence("Promise 17: NONE: it can't be (TICKS, a above b); a TICK within a .. b (0 .. 200)");
        int[][] right = {{0, 0}, {0, 200}, {200, 200}, {199, 200}, {0, 1}, {7, 7}};
        for (int[] s : right) {
            Check.due("split(1, 1, " + s[0] + ", " + s[1] + ")", new Desk().split(1, 1, s[0], s[1]), 1);
        }
        int[][] wrong = {{-1, 0}, {-1, 200}, {-1, -1}, {0, 201}, {200, 201}, {201, 201}, {1, 0}, {200, 199}, {200, 0}, {201, 0}, {0, -1}};
        Desk f = new Desk();
        for (int[] s : wrong) {
            Check.due("split(1, 1, " + s[0] + ", " + s[1] + ")", f.split(1, 1, s[0], s[1]), NONE);
        }
        for (int far : Edges.outside(0, 200)) {
            Check.due("split(1, 1, " + far + ", 200)", f.split(1, 1, far, 200), NONE);
            Check.due("split(1, 1, 0, " + far + ")", f.split(1, 1, 0, far), NONE);
            Check.due("split(1, 1, " + far + ", " + far + ")", f.split(1, 1, far, far), NONE);
        }
        Check.due("none came: count(4)", f.count(4), 0);
    }

    private static void fiveSplits() {
        Check.sentence("Promise 17: A SPLIT: how many; NONE: 5 there are.");
        Desk f = new Desk();
        for (int i = 1; i <= 5; i++) {
            Check.due("number " + i + ": split(0, 0, 0, 200)", f.split(0, 0, 0, 200), i);
            Check.due("number " + i + ": count(4)", f.count(4), i);
        }
        Check.due("a sixth: split(0, 0, 0, 200)", f.split(0, 0, 0, 200), NONE);
        Check.due("a sixth, no cell: split(2, 0, 0, 200)", f.split(2, 0, 0, 200), NONE);
        Check.due("five: count(4)", f.count(4), 5);
        Check.due("five: could()", f.could(), 5);
        f.unsplit();
        Check.due("none again, one more: split(0, 0, 0, 200)", f.split(0, 0, 0, 200), 1);
    }

    private static void refusedSplitChangesNothing() {
        Check.sentence("Promise 17: NONE: it can't be (no such CELL, TICKS, a above b)");
        int[][] wrong = {
            {-1, 0, 0, 9}, {4, 0, 0, 9}, {0, -1, 0, 9}, {0, 3, 0, 9}, {0, 0, -1, 9}, {0, 0, 0, 201}, {0, 0, 9, 8},
            {0, 0, Integer.MIN_VALUE, 9}, {0, 0, 0, Integer.MAX_VALUE}};
        for (int[] s : wrong) {
            String call = "split(" + s[0] + ", " + s[1] + ", " + s[2] + ", " + s[3] + ")";
            Twins.dueUnchanged(call, Twins::livedIn, d -> d.split(s[0], s[1], s[2], s[3]));
        }
    }

    private static void sixthSplitChangesNothing() {
        Check.sentence("Promise 17: NONE: 5 there are.");
        Twins.dueUnchanged("a sixth: split(0, 0, 1, 1)", ClaimEdgeTests::livedInWithFive, d -> d.split(0, 0, 1, 1));
        Twins.dueUnchanged("a sixth: split(2, 2, 200, 200)", ClaimEdgeTests::livedInWithFive, d -> d.split(2, 2, 200, 200));
    }

    private static void livedInWithFive(Desk d) {
        Twins.livedIn(d);
        d.split(3, 1, 5, 5);
    }

    private static void unsplitLeavesNone() {
        Check.sentence("Promise 18: No SPLITS.");
        Desk f = Desk.onBoard(3, 3);
        f.unsplit();
        Check.due("none before: count(4)", f.count(4), 0);
        for (int i = 0; i < 5; i++) {
            f.split(2, 2, 0, 3);
        }
        f.unsplit();
        Check.due("count(4)", f.count(4), 0);
        Check.due("could()", f.could(), 0);
        Check.due("the first again: split(2, 2, 4, 4)", f.split(2, 2, 4, 4), 1);
        Check.due("nothing of the old ones: could()", f.could(), 1);
        Desk g = new Desk();
        Twins.livedIn(g);
        g.unsplit();
        dueRestOfLivedIn(g, 3, 0);
        Twins.dueUnchanged("none there: unsplit()", ClaimEdgeTests::livedInUnsplit, d -> d.unsplit());
        Twins.dueUnchanged("a split more, and unsplit()", ClaimEdgeTests::livedInUnsplit, d -> {
            d.split(0, 0, 0, 0);
            d.unsplit();
        });
    }

    private static void livedInUnsplit(Desk d) {
        Twins.livedIn(d);
        d.unsplit();
    }

    private static void dueCould(String when, Desk f, int want, int[]... splits) {
        f.unsplit();
        for (int[] s : splits) {
            f.split(s[0], s[1], s[2], s[3]);
        }
        Check.due(when + ": could()", f.could(), want);
    }

    private static int[] at(int x, int y, int a, int b) {
        return new int[] {x, y, a, b};
    }

    private static void noSplits() {
        Check.sentence("Promise 19: how many of the first SPLITS, at most, can be so together (none there are)");
        Check.due("a new object: could()", new Desk().could(), 0);
        Desk f = new Desk();
        f.cell(0, 0, 8);
        f.foe(0, 0);
        Check.due("on a goal, with a foe: could()", f.could(), 0);
    }

    private static void tickNoughtIsTheBeginning() {
        Check.sentence("Terms: TICK 0 is the beginning");
        for (int kind = 0; kind <= 8; kind++) {
            Desk f = Desk.onBoard(3, 3);
            f.cell(1, 1, kind);
            f.start(1, 1);
            dueCould("begun on kind " + kind, f, 1, at(1, 1, 0, 0));
            dueCould("elsewhere, begun on kind " + kind, f, 0, at(0, 1, 0, 0));
            dueCould("a tick later, begun on kind " + kind, f, 1, at(0, 1, 1, 1));
        }
        Desk g = Desk.onBoard(3, 3);
        g.press(2);
        dueCould("not the state at hand", g, 0, at(1, 0, 0, 0));
        dueCould("all at the beginning", g, 5, at(0, 0, 0, 0), at(0, 0, 0, 0), at(0, 0, 0, 0), at(0, 0, 0, 0), at(0, 0, 0, 0));
    }

    private static void firstAndLastTickOfASplit() {
        Check.sentence("Terms: the RUNNER was on a CELL at a TICK within a .. b");
        Desk f = Desk.onBoard(4, 3);
        dueCould("five steps, up to 4", f, 0, at(3, 2, 0, 4));
        dueCould("five steps, up to 5", f, 1, at(3, 2, 0, 5));
        dueCould("five steps, at 5", f, 1, at(3, 2, 5, 5));
        dueCould("five steps, from 5", f, 1, at(3, 2, 5, 200));
        dueCould("five steps, waited once", f, 1, at(3, 2, 6, 6));
        Desk g = Desk.onBoard(3, 2);
        g.foe(1, 0);
        g.foe(2, 1);
        g.foe(1, 0);
        g.foe(1, 0);
        dueCould("where the foe is at 0, 2 and 3, from 2 to 3", g, 0, at(1, 0, 2, 3));
        dueCould("from 1 to 3", g, 1, at(1, 0, 1, 3));
        dueCould("from 2 to 4", g, 0, at(1, 0, 2, 4));
        dueCould("from 2 to 5", g, 1, at(1, 0, 2, 5));
    }

    private static void eachCellAtItsTick() {
        Check.sentence("Terms: the RUNNER goes to the CELL that the PRESS tells, if that is on the board; was on a CELL at a TICK within a .. b");
        int[][] corners = {{0, 0}, {7, 0}, {0, 7}, {7, 7}, {3, 4}};
        for (int[] corner : corners) {
            Desk f = Desk.onBoard(8, 8);
            f.start(corner[0], corner[1]);
            for (int i = 0; i < 64; i++) {
                int steps = Math.abs(i % 8 - corner[0]) + Math.abs(i / 8 - corner[1]);
                String when = steps + " steps from " + corner[0] + ", " + corner[1];
                dueCould(when, f, 1, at(i % 8, i / 8, 0, steps));
                if (steps > 0) {
                    dueCould(when + ", a tick too few", f, 0, at(i % 8, i / 8, 0, steps - 1));
                }
            }
        }
    }

    private static void noWayOffTheBoard() {
        Check.sentence("Terms: the CELL that the PRESS tells, if that is on the board, no wall (else it stays)");
        for (int w = 3; w <= 8; w++) {
            for (int h = 3; h <= 8; h++) {
                Desk f = Desk.onBoard(w, h);
                Desk g = Desk.onBoard(w, h);
                for (int y = 0; y < h; y++) {
                    f.cell(w - 2, y, 1);
                }
                for (int x = 0; x < w; x++) {
                    g.cell(x, h - 2, 1);
                }
                String when = "of " + w + " by " + h;
                dueCould(when + ", a column of walls", f, 0, at(w - 1, h - 1, 0, 200));
                dueCould(when + ", a row of walls", g, 0, at(w - 1, h - 1, 0, 200));
                f.start(w - 1, 0);
                g.start(0, h - 1);
                dueCould(when + ", back past the column", f, 0, at(0, 0, 0, 200));
                dueCould(when + ", back past the row", g, 0, at(0, 0, 0, 200));
            }
        }
    }

    private static void tickTwoHundred() {
        Check.sentence("Terms: a TICK within a .. b (0 .. 200)");
        Desk f = Desk.onBoard(8, 8);
        dueCould("the far corner at 200", f, 1, at(7, 7, 200, 200));
        dueCould("the beginning at 200", f, 1, at(0, 0, 200, 200));
        dueCould("at 199 and 200", f, 2, at(7, 7, 199, 199), at(7, 6, 200, 200));
        dueCould("at 199 and 200, two steps", f, 1, at(7, 7, 199, 199), at(6, 6, 200, 200));
        dueCould("all five at 200", f, 5, at(7, 7, 200, 200), at(7, 7, 200, 200), at(7, 7, 0, 200), at(7, 7, 200, 200), at(7, 7, 200, 200));
        Desk g = Desk.onBoard(3, 3);
        g.foe(2, 2);
        g.foe(2, 1);
        g.foe(1, 1);
        dueCould("where the foe is at 200", g, 0, at(1, 1, 200, 200));
        dueCould("a tick before it", g, 1, at(1, 1, 199, 199));
        dueCould("at either", g, 1, at(1, 1, 199, 200));
        dueCould("where the foe was at 199", g, 1, at(2, 1, 200, 200));
        dueCould("where the foe was at 199, by changing places", g, 1, at(1, 1, 199, 199), at(2, 1, 200, 200));
    }

    private static void atTheSameTickOrLater() {
        Check.sentence("Terms: each at a later TICK than the one ahead, or at the same one");
        Desk f = Desk.onBoard(4, 3);
        dueCould("the same tick", f, 2, at(1, 1, 2, 2), at(1, 1, 2, 2));
        dueCould("the same tick, all five", f, 5, at(1, 1, 2, 2), at(1, 1, 0, 2), at(1, 1, 2, 9), at(1, 1, 1, 3), at(1, 1, 2, 2));
        dueCould("the same tick, elsewhere", f, 1, at(1, 1, 2, 2), at(1, 0, 2, 2));
        dueCould("the next tick", f, 2, at(1, 1, 2, 2), at(1, 0, 3, 3));
        dueCould("the tick before", f, 1, at(1, 1, 2, 2), at(1, 0, 1, 1));
        dueCould("the tick before, the same cell", f, 1, at(0, 0, 2, 2), at(0, 0, 1, 1));
        dueCould("in order, as long as it takes", f, 2, at(3, 0, 0, 9), at(0, 0, 0, 6));
        dueCould("in order, a tick too few", f, 1, at(3, 0, 0, 9), at(0, 0, 0, 5));
        dueCould("not in the other order", f, 1, at(3, 0, 3, 9), at(0, 0, 0, 2));
        dueCould("counted as late as can be", f, 3, at(0, 0, 0, 9), at(1, 0, 9, 9), at(1, 1, 10, 10));
    }

    private static void notCaughtByThen() {
        Check.sentence("Terms: not CAUGHT by then");
        Desk f = Desk.onBoard(3, 2);
        f.cell(1, 1, 1);
        f.foe(1, 0);
        dueCould("at the tick at which it is caught", f, 0, at(1, 0, 1, 1));
        dueCould("behind it", f, 0, at(2, 0, 0, 200));
        dueCould("ahead of it", f, 1, at(0, 0, 200, 200), at(1, 0, 0, 200));
        Desk g = Desk.onBoard(3, 2);
        g.foe(0, 0);
        dueCould("begun with the foe", g, 1, at(0, 0, 0, 0));
        dueCould("begun with the foe, and gone", g, 2, at(0, 0, 0, 0), at(1, 0, 1, 1));
        dueCould("begun with the foe, and stayed", g, 1, at(0, 0, 0, 0), at(0, 0, 1, 200));
        Desk h = Desk.onBoard(3, 2);
        h.cell(1, 0, 8);
        h.foe(1, 0);
        dueCould("caught on the goal", h, 0, at(1, 0, 0, 200));
    }

    private static void notChangedPlacesByThen() {
        Check.sentence("Terms: each is where the other one was .. it is CAUGHT; not CAUGHT by then");
        Desk f = Desk.onBoard(3, 2);
        f.cell(0, 1, 1);
        f.cell(1, 1, 1);
        f.foe(1, 0);
        f.foe(0, 0);
        f.foe(0, 0);
        dueCould("the foe comes, no way but past it", f, 0, at(1, 0, 0, 200));
        dueCould("begun, and no more", f, 1, at(0, 0, 0, 0), at(0, 0, 1, 200));
        Desk g = Desk.onBoard(3, 2);
        g.foe(1, 0);
        g.foe(0, 0);
        g.foe(0, 0);
        dueCould("not past it", g, 0, at(1, 0, 1, 1));
        dueCould("round it, as it comes back", g, 0, at(1, 0, 1, 3));
        dueCould("round it, as it has left again", g, 1, at(1, 0, 4, 4));
    }

    private static void notBehindTheEnd() {
        Check.sentence("Terms: not behind the TICK at which it had ENDED");
        Desk f = Desk.onBoard(3, 2);
        f.cell(1, 0, 8);
        f.cell(1, 1, 1);
        dueCould("at the tick at which it ends", f, 1, at(1, 0, 1, 1));
        dueCould("at that tick, all five", f, 5, at(1, 0, 1, 1), at(1, 0, 1, 1), at(1, 0, 0, 1), at(1, 0, 1, 9), at(1, 0, 1, 1));
        dueCould("a tick behind", f, 1, at(1, 0, 1, 1), at(1, 0, 2, 2));
        dueCould("a tick behind, elsewhere", f, 1, at(1, 0, 1, 200), at(0, 0, 0, 200));
        dueCould("ended later", f, 2, at(0, 0, 199, 199), at(1, 0, 200, 200));
        dueCould("past the goal", f, 0, at(2, 0, 0, 200));
    }

    private static void endAtTheBeginning() {
        Check.sentence("Terms: a GOAL not reached (at the beginning); not behind the TICK at which it had ENDED");
        Desk f = Desk.onBoard(3, 2);
        f.cell(0, 0, 8);
        dueCould("begun there, and elsewhere", f, 2, at(0, 0, 0, 0), at(1, 0, 1, 1));
        dueCould("begun there, and ended there", f, 2, at(0, 0, 0, 0), at(0, 0, 1, 1));
        dueCould("ended there, and no more", f, 2, at(0, 0, 0, 0), at(0, 0, 1, 1), at(0, 0, 2, 2));
        dueCould("off, and ended there", f, 3, at(0, 0, 0, 0), at(0, 1, 1, 1), at(0, 0, 2, 2));
        dueCould("off, ended, and no more", f, 2, at(0, 1, 1, 1), at(0, 0, 2, 2), at(0, 1, 3, 3));
    }

    private static void keysAndDoorsOfSplits() {
        Check.sentence("Terms: no DOOR whose KEY it lacks; COULD: whether there is a row of PRESSES with which all are so");
        Desk f = Desk.onBoard(4, 2);
        f.cell(1, 1, 1);
        f.cell(2, 1, 1);
        f.cell(3, 1, 1);
        f.cell(1, 0, 5);
        f.cell(2, 0, 7);
        dueCould("no keys", f, 0, at(1, 0, 0, 200));
        f.cell(0, 1, 2);
        dueCould("a key, at its tick", f, 1, at(1, 0, 3, 3));
        dueCould("a key, a tick too soon", f, 0, at(1, 0, 2, 2));
        dueCould("not the other door", f, 1, at(1, 0, 0, 200), at(2, 0, 0, 200));
        f.start(0, 1);
        dueCould("the key where it begins isn't taken", f, 0, at(1, 0, 2, 2));
        dueCould("but by a tick there", f, 1, at(1, 0, 3, 3));
        f.cell(0, 0, 4);
        dueCould("both keys", f, 2, at(1, 0, 3, 3), at(2, 0, 4, 4));
        dueCould("both keys, and through", f, 2, at(3, 0, 5, 5), at(0, 1, 9, 9));
    }

    private static void howManyOfTheFirst() {
        Check.sentence("Promise 19: COULD: how many of the first SPLITS, at most, can be so together (all of them: it could be).");
        for (int fails = 0; fails < 5; fails++) {
            Desk f = Desk.onBoard(4, 3);
            for (int i = 0; i < 5; i++) {
                f.split(i == fails ? 3 : 0, i == fails ? 2 : 0, i, i);
            }
            Check.due("number " + fails + " can't be: could()", f.could(), fails);
        }
        Desk g = Desk.onBoard(4, 3);
        for (int i = 0; i < 5; i++) {
            Check.due("number " + i + ": split(..)", g.split(i % 2, 0, i, i), i + 1);
            Check.due("all up to " + i + ": could()", g.could(), i + 1);
        }
    }

    private static void couldChangesNothing() {
        Check.sentence("Promise 19: COULD: how many of the first SPLITS");
        Twins.dueUnchanged("could()", Twins::livedIn, d -> d.could());
        Twins.dueUnchanged("differs()", Twins::livedIn, d -> d.differs());
    }
}
