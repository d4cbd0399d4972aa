/** The edges of a run: presses and ticks, states and what is kept of them, the fewest presses; promises 6 to 12. */
public final class RunEdgeTests {
    private static final int NONE = FastestRun.NONE;

    public static void main(String[] args) {
        pressesThereAre();
        refusedPressChangesNothing();
        staysOnTheBoard();
        staysBeforeAWall();
        staysBeforeADoorWithoutItsKey();
        stayingIsATick();
        oneCellIsCaught();
        changedPlacesIsCaught();
        changedPlacesAroundTheRound();
        sameCellBeforeIsNotCaught();
        caughtAheadOfKeyAndGoal();
        keyIsItsOwnAndStays();
        goalEnds();
        overIsOver();
        fiveHundredPresses();
        fiveHundredthEndsOrCatches();
        fiveHundredAndBegin();
        statesThereAre();
        statesAtTheirEdges();
        allKeysInTheLastCell();
        refusedStateChangesNothing();
        placesThereAre();
        refusedSaveChangesNothing();
        keptPlaceByPlace();
        keptGoesWithTheGame();
        keptStaysWithTheRest();
        noneKeptThere();
        refusedBackChangesNothing();
        backToAnyState();
        backToFiveHundred();
        backAgain();
        beginFromAnywhere();
        beginLeavesTheRest();
        noSuchRow();
        noSuchRowFromElsewhere();
        leastWhenOver();
        leastFromTheBeginning();
        leastAroundTheRound();
        leastAtEachPlaceOfTheRound();
        leastFarAway();
        leastOfAllThereCanBe();
        firstOfSuchRows();
        leastChangesNothing();
        pressesOfTheRow();
        noSuchPressOfTheRow();
        rowAsItWasThen();
        Check.end();
    }

    private static void pressesThereAre() {
        Check.sentence("Terms: A PRESS: 0 none, 1 up (y less), 2 right, 3 down, 4 left.");
        Desk f = Desk.onBoard(3, 3);
        f.start(1, 1);
        int[][] to = {{1, 1}, {1, 0}, {2, 1}, {1, 2}, {0, 1}};
        for (int press = 0; press <= 4; press++) {
            f.begin();
            Check.due("press(" + press + ")", f.press(press), 0);
            Edges.dueState("press(" + press + ")", f, to[press][0], to[press][1], 0, 1, 0);
        }
        f.begin();
        for (int wrong : Edges.outside(0, 4)) {
            Check.due("press(" + wrong + ")", f.press(wrong), NONE);
        }
        Edges.dueState("none of these is one", f, 1, 1, 0, 0, 0);
    }

    private static void refusedPressChangesNothing() {
        Check.sentence("Promise 6: NONE, and nothing happens: no such PRESS, the run is over, or there were 500.");
        for (int wrong : Edges.outside(0, 4)) {
            Twins.dueUnchanged("press(" + wrong + ")", Twins::livedIn, d -> d.press(wrong));
        }
        for (int press = -1; press <= 5; press++) {
            int told = press;
            Twins.dueUnchanged("ended: press(" + press + ")", RunEdgeTests::ended, d -> d.press(told));
            Twins.dueUnchanged("caught: press(" + press + ")", RunEdgeTests::caught, d -> d.press(told));
            Twins.dueUnchangedLate("after 500: press(" + press + ")", d -> Edges.idle(d, 500), d -> d.press(told));
        }
    }

    private static void ended(Desk d) {
        Twins.livedIn(d);
        d.back(2);
        d.press(3);
        Check.due("ended: state(4)", d.state(4), 2);
    }

    private static void caught(Desk d) {
        Twins.livedIn(d);
        d.back(0);
        d.press(0);
        d.press(0);
        d.press(3);
        Check.due("caught: state(4)", d.state(4), 1);
    }

    private static void staysOnTheBoard() {
        Check.sentence("Terms: the RUNNER goes to the CELL that the PRESS tells, if that is on the board (else it stays)");
        int[][] sizes = {{2, 2}, {8, 8}, {2, 8}, {8, 2}, {5, 3}};
        for (int[] size : sizes) {
            for (int i = 0; i < size[0]; i++) {
                dueStays(size, i, 0, 1);
                dueStays(size, i, size[1] - 1, 3);
            }
            for (int i = 0; i < size[1]; i++) {
                dueStays(size, size[0] - 1, i, 2);
                dueStays(size, 0, i, 4);
            }
        }
    }

    private static void dueStays(int[] size, int x, int y, int press) {
        Desk f = Desk.onBoard(size[0], size[1]);
        f.start(x, y);
        String when = "of " + size[0] + " by " + size[1] + " at " + x + ", " + y;
        Check.due(when + ": press(" + press + ")", f.press(press), 0);
        Edges.dueState(when + ", press " + press, f, x, y, 0, 1, 0);
    }

    private static void staysBeforeAWall() {
        Check.sentence("Terms: no wall (else it stays)");
        Desk f = Desk.onBoard(3, 3);
        f.cell(1, 1, 1);
        int[][] sides = {{1, 2, 1}, {0, 1, 2}, {1, 0, 3}, {2, 1, 4}};
        for (int[] side : sides) {
            f.start(side[0], side[1]);
            Check.due("at " + side[0] + ", " + side[1] + ": press(" + side[2] + ")", f.press(side[2]), 0);
            Edges.dueState("stays", f, side[0], side[1], 0, 1, 0);
        }
    }

    /** The three cells ahead of the door hold the keys told, floor for the others. */
    private static Desk keysAndDoor(int keys, int door) {
        Desk f = Desk.onBoard(6, 2);
        for (int key = 0; key < 3; key++) {
            f.cell(1 + key, 0, (keys >> key & 1) == 1 ? 2 + key : 0);
        }
        f.cell(4, 0, 5 + door);
        return f;
    }

    private static void staysBeforeADoorWithoutItsKey() {
        Check.sentence("Terms: and no DOOR whose KEY it lacks (else it stays)");
        for (int keys = 0; keys < 8; keys++) {
            for (int door = 0; door < 3; door++) {
                Desk f = keysAndDoor(keys, door);
                boolean opens = (keys >> door & 1) == 1;
                String when = "keys " + keys + ", door " + door;
                Edges.duePresses(when, f, 0, 2, 2, 2, 2);
                Edges.dueState(when, f, opens ? 4 : 3, 0, keys, 4, 0);
                f.split(4, 0, 0, 4);
                Check.due(when + ": could()", f.could(), opens ? 1 : 0);
                f.cell(5, 0, 8);
                f.cell(5, 1, 1);
                Check.due(when + ": least()", f.least(), opens ? 5 : NONE);
            }
        }
    }

    private static void stayingIsATick() {
        Check.sentence("Terms: (else it stays); the FOE goes on");
        Desk f = Desk.onBoard(2, 2);
        f.foe(1, 1);
        f.foe(1, 0);
        f.foe(0, 0);
        Edges.duePresses("against the edge", f, 0, 1);
        Edges.dueFoe("it goes on", f, 1, 0);
        Edges.duePresses("against the edge as it comes", f, 1, 4);
        Edges.dueState("caught where it stayed", f, 0, 0, 0, 2, 1);
        Edges.dueFoe("it is there", f, 0, 0);
        f.start(0, 1);
        f.cell(0, 1, 4);
        Edges.duePresses("against the edge", f, 0, 3);
        Edges.dueState("the key of the cell where it stayed", f, 0, 1, 4, 1, 0);
        f.cell(0, 1, 8);
        Edges.duePresses("on the goal where it stayed", f, 2, 4);
    }

    private static void oneCellIsCaught() {
        Check.sentence("Terms: if both are on one CELL then");
        int[][] ways = {{1, 1, 0}, {2, 2, 1}, {3, 1, 2}, {4, 0, 1}};
        for (int[] way : ways) {
            Desk f = Desk.onBoard(3, 3);
            f.start(1, 1);
            f.foe(way[1], way[2]);
            Check.due("onto it: press(" + way[0] + ")", f.press(way[0]), 1);
            Edges.dueState("onto it", f, way[1], way[2], 0, 1, 1);
        }
        Desk g = Desk.onBoard(3, 3);
        g.foe(2, 2);
        g.foe(0, 0);
        Check.due("it comes from afar: press(0)", g.press(0), 1);
        g.begin();
        Edges.duePresses("away in time, and where it was", g, 0, 2, 3);
        Edges.duePresses("onto where it was as it has left", g, 0, 3);
    }

    private static void changedPlacesIsCaught() {
        Check.sentence("Terms: or each is where the other one was");
        int[][] ways = {{1, 1, 0}, {2, 2, 1}, {3, 1, 2}, {4, 0, 1}};
        for (int[] way : ways) {
            Desk f = Desk.onBoard(3, 3);
            f.start(1, 1);
            f.foe(way[1], way[2]);
            f.foe(1, 1);
            Check.due("changed places: press(" + way[0] + ")", f.press(way[0]), 1);
            Edges.dueState("changed places", f, way[1], way[2], 0, 1, 1);
            Edges.dueFoe("changed places", f, 1, 1);
            f.split(way[1], way[2], 1, 1);
            Check.due("changed places: could()", f.could(), 0);
            f.cell(way[1], way[2], 8);
            Check.due("not by changing places: least() is 1", f.least() == 1, false);
        }
        Desk g = Desk.onBoard(3, 3);
        g.start(1, 1);
        g.foe(1, 0);
        g.foe(2, 0);
        Check.due("only the runner is where the other was: press(1)", g.press(1), 0);
        Desk h = Desk.onBoard(3, 3);
        h.start(1, 1);
        h.foe(2, 2);
        h.foe(1, 1);
        Check.due("only the foe is where the other was: press(1)", h.press(1), 0);
    }

    private static void changedPlacesAroundTheRound() {
        Check.sentence("Terms: each is where the other one was; behind the last one on the first");
        Desk f = roundOfThree();
        Edges.duePresses("above the first of the round", f, 0, 0, 0);
        Edges.dueFoe("at its last cell", f, 0, 1);
        Edges.duePresses("onto the first as the foe comes there", f, 1, 3);
        Desk g = roundOfThree();
        Edges.duePresses("on the first of the round as the foe is on its last", g, 0, 3, 0);
        Edges.duePresses("changed places of last and first", g, 1, 4);
        Edges.dueState("changed places of last and first", g, 0, 1, 0, 3, 1);
        Edges.dueFoe("changed places of last and first", g, 1, 1);
    }

    private static Desk roundOfThree() {
        Desk f = Desk.onBoard(3, 3);
        f.foe(1, 1);
        f.foe(2, 2);
        f.foe(0, 1);
        f.start(1, 0);
        return f;
    }

    private static void sameCellBeforeIsNotCaught() {
        Check.sentence("Terms: (and they were not on one CELL)");
        Desk f = Desk.onBoard(3, 3);
        f.start(1, 1);
        f.foe(1, 1);
        f.foe(1, 0);
        int[] how = {0, 1, 0, 0, 0};
        for (int press = 0; press <= 4; press++) {
            f.begin();
            Check.due("from one cell: press(" + press + ")", f.press(press), how[press]);
        }
        Desk g = Desk.onBoard(3, 3);
        g.start(1, 1);
        g.foe(1, 1);
        g.foe(1, 1);
        for (int press = 0; press <= 4; press++) {
            g.begin();
            Check.due("from one cell, the foe stays: press(" + press + ")", g.press(press), press == 0 ? 1 : 0);
        }
    }

    private static void caughtAheadOfKeyAndGoal() {
        Check.sentence("Terms: it is CAUGHT; else a KEY of its CELL is its own from then on; else on the GOAL it has ENDED");
        for (int kind = 2; kind <= 8; kind++) {
            Desk f = Desk.onBoard(3, 2);
            f.cell(0, 1, kind);
            f.start(0, 1);
            f.foe(0, 1);
            Check.due("caught on kind " + kind + ": press(0)", f.press(0), 1);
            Edges.dueState("caught on kind " + kind, f, 0, 1, 0, 1, 1);
            Edges.claimAll(f, 0);
            Check.due("caught on kind " + kind + ": prove(1)", f.prove(1), 3);
        }
        Desk g = Desk.onBoard(3, 2);
        g.cell(1, 0, 8);
        g.foe(1, 0);
        g.foe(0, 0);
        Check.due("places changed onto the goal: press(2)", g.press(2), 1);
        Check.due("caught: state(4)", g.state(4), 1);
    }

    private static void keyIsItsOwnAndStays() {
        Check.sentence("Terms: a KEY of its CELL is its own from then on (others may take it as well: it stays there)");
        Desk f = Desk.onBoard(4, 2);
        f.cell(1, 0, 2);
        f.cell(2, 0, 3);
        f.cell(3, 0, 4);
        int[] keys = {1, 3, 7};
        for (int i = 0; i < 3; i++) {
            f.press(2);
            Edges.dueState("key " + i, f, 1 + i, 0, keys[i], 1 + i, 0);
        }
        Edges.duePresses("back over them", f, 0, 4, 4, 4);
        Edges.dueState("its own from then on", f, 0, 0, 7, 6, 0);
        f.begin();
        Edges.duePresses("begun anew", f, 0, 2);
        Edges.dueState("it stays there", f, 1, 0, 1, 1, 0);
    }

    private static void goalEnds() {
        Check.sentence("Promise 6: A TICK: 0 it goes on, 1 CAUGHT, 2 ENDED");
        Desk f = Desk.onBoard(3, 2);
        f.cell(2, 0, 8);
        f.cell(0, 1, 8);
        Check.due("beside a goal: press(2)", f.press(2), 0);
        Check.due("on a goal: press(2)", f.press(2), 2);
        Edges.dueState("on a goal", f, 2, 0, 0, 2, 2);
        f.begin();
        Check.due("on the other goal: press(3)", f.press(3), 2);
        Edges.dueState("on the other goal", f, 0, 1, 0, 1, 2);
    }

    private static void overIsOver() {
        Check.sentence("Terms: CAUGHT or ENDED the run is over.");
        Desk f = Desk.onBoard(3, 2);
        f.cell(1, 0, 8);
        f.foe(0, 1);
        Check.due("ended: press(2)", f.press(2), 2);
        for (int press = 0; press <= 4; press++) {
            Check.due("over: press(" + press + ")", f.press(press), NONE);
        }
        Edges.dueState("ended", f, 1, 0, 0, 1, 2);
        f.begin();
        Check.due("caught: press(3)", f.press(3), 1);
        for (int press = 0; press <= 4; press++) {
            Check.due("over: press(" + press + ")", f.press(press), NONE);
        }
        Edges.dueState("caught", f, 0, 1, 0, 1, 1);
    }

    private static void fiveHundredPresses() {
        Check.sentence("Promise 6: NONE, and nothing happens: there were 500.");
        Desk f = new Desk();
        for (int tick = 1; tick <= 500; tick++) {
            Check.due("number " + tick + ": press(2)", f.press(2), 0);
        }
        Check.due("state(3)", f.state(3), 500);
        Check.due("one more: press(4)", f.press(4), NONE);
        Edges.dueState("nothing happened", f, 1, 0, 0, 500, 0);
        Desk g = new Desk();
        Edges.idle(g, 499);
        Check.due("no such one: press(5)", g.press(5), NONE);
        Check.due("no such one: press(-1)", g.press(-1), NONE);
        Check.due("these don't count: state(3)", g.state(3), 499);
        Check.due("the last: press(2)", g.press(2), 0);
        Check.due("one more: press(4)", g.press(4), NONE);
        Edges.dueState("nothing happened", g, 1, 0, 0, 500, 0);
    }

    private static void fiveHundredthEndsOrCatches() {
        Check.sentence("Terms: the PRESSES from the beginning (500 at most)");
        Desk f = new Desk();
        f.cell(1, 0, 8);
        Edges.idle(f, 499);
        Check.due("ended with the last: press(2)", f.press(2), 2);
        Edges.dueState("ended with the last", f, 1, 0, 0, 500, 2);
        Desk g = new Desk();
        g.foe(1, 0);
        Edges.idle(g, 499);
        Check.due("caught with the last: press(2)", g.press(2), 1);
        Edges.dueState("caught with the last", g, 1, 0, 0, 500, 1);
        Desk h = new Desk();
        h.cell(1, 0, 8);
        Edges.idle(h, 500);
        Check.due("a press too late: press(2)", h.press(2), NONE);
        Edges.dueState("a press too late", h, 0, 0, 0, 500, 0);
        Desk k = new Desk();
        k.cell(0, 1, 4);
        Edges.idle(k, 499);
        Check.due("a key with the last: press(3)", k.press(3), 0);
        Edges.dueState("a key with the last", k, 0, 1, 4, 500, 0);
    }

    private static void fiveHundredAndBegin() {
        Check.sentence("Terms: the PRESSES from the beginning (500 at most)");
        Desk f = new Desk();
        Edges.idle(f, 500);
        f.begin();
        Check.due("anew: state(3)", f.state(3), 0);
        Check.due("anew: press(2)", f.press(2), 0);
        Check.due("anew: state(3)", f.state(3), 1);
        Check.due("anew: differs()", f.differs(), 1);
        Desk g = new Desk();
        Edges.idle(g, 500);
        Check.due("another cell: cell(1, 1, 0)", g.cell(1, 1, 0), true);
        Check.due("anew: press(2)", g.press(2), 0);
        Desk h = new Desk();
        h.save(3);
        Edges.idle(h, 500);
        Check.due("back(3)", h.back(3), true);
        Check.due("from there: press(2)", h.press(2), 0);
    }

    private static void statesThereAre() {
        Check.sentence("Promise 7: what 0: x .. 6: y of the FOE (NONE without). NONE for another what.");
        Desk f = new Desk();
        Twins.livedIn(f);
        int[] want = {1, 0, 1, 4, 0, 2, 2};
        for (int what = 0; what <= 6; what++) {
            Check.due("state(" + what + ")", f.state(what), want[what]);
        }
        for (int wrong : Edges.outside(0, 6)) {
            Check.due("state(" + wrong + ")", f.state(wrong), NONE);
        }
        Edges.dueFoe("without a foe", new Desk(), NONE, NONE);
    }

    private static void statesAtTheirEdges() {
        Check.sentence("Promise 7: x, y, KEYS (bits), TICK, 0 goes on, 1 CAUGHT, 2 ENDED, x, y of the FOE");
        Desk f = Desk.onBoard(8, 8);
        f.foe(0, 0);
        f.foe(7, 7);
        f.start(7, 0);
        Edges.dueState("the last column", f, 7, 0, 0, 0, 0);
        Edges.dueFoe("the first cell", f, 0, 0);
        f.press(0);
        Edges.dueFoe("the last cell", f, 7, 7);
        f.start(0, 7);
        Edges.dueState("the last row", f, 0, 7, 0, 0, 0);
        f.start(7, 7);
        Edges.dueState("the last cell", f, 7, 7, 0, 0, 0);
        Check.due("it comes: press(0)", f.press(0), 1);
        Edges.dueState("caught in the last cell", f, 7, 7, 0, 1, 1);
    }

    private static void allKeysInTheLastCell() {
        Check.sentence("Promise 7: x, y, KEYS (bits): the last CELL of the largest board, with all KEYS");
        Desk f = Desk.onBoard(8, 8);
        f.start(4, 7);
        for (int key = 0; key < 3; key++) {
            f.cell(5 + key, 7, 2 + key);
        }
        f.cell(7, 6, 7);
        f.cell(7, 5, 8);
        f.cell(6, 5, 1);
        f.cell(7, 4, 1);
        Edges.duePresses("to the last cell", f, 0, 2, 2, 2);
        Edges.dueState("in the last cell", f, 7, 7, 7, 3, 0);
        Edges.duePresses("a tick there", f, 0, 0);
        Edges.dueState("a tick there", f, 7, 7, 7, 4, 0);
        Check.due("from there: least()", f.least(), 2);
        Edges.dueRow("from there", f, 1, 1);
        Edges.duePresses("through the door", f, 0, 1);
        Edges.duePresses("to the goal", f, 2, 1);
        Edges.dueState("to the goal", f, 7, 5, 7, 6, 2);
        f.begin();
        Check.due("from the beginning: least()", f.least(), 5);
        Edges.dueRow("from the beginning", f, 2, 2, 2, 1, 1);
        Edges.claimAll(f, 2, 2, 2, 1, 1);
        Check.due("prove(5)", f.prove(5), 0);
        f.split(7, 7, 3, 3);
        f.split(7, 5, 5, 5);
        Check.due("could()", f.could(), 2);
    }

    private static void refusedStateChangesNothing() {
        Check.sentence("Promise 7: Of the STATE at hand; NONE for another what.");
        for (int what = -1; what <= 7; what++) {
            int told = what;
            Twins.dueUnchanged("state(" + what + ")", Twins::livedIn, d -> d.state(told));
        }
    }

    private static void placesThereAre() {
        Check.sentence("Promise 8: The STATE is kept at a place 0 .. 3: true; false: no such place.");
        Desk f = new Desk();
        for (int wrong : Edges.outside(0, 3)) {
            Check.due("save(" + wrong + ")", f.save(wrong), false);
        }
        for (int place = 0; place <= 3; place++) {
            Check.due("save(" + place + ")", f.save(place), true);
        }
        for (int wrong : Edges.outside(0, 3)) {
            Check.due("all are kept: back(" + wrong + ")", f.back(wrong), false);
        }
    }

    private static void refusedSaveChangesNothing() {
        Check.sentence("Promise 8: false: no such place.");
        for (int wrong : Edges.outside(0, 3)) {
            Twins.dueUnchanged("save(" + wrong + ")", Twins::livedIn, d -> d.save(wrong));
        }
    }

    private static void keptPlaceByPlace() {
        Check.sentence("Promise 8: The STATE is kept at a place 0 .. 3");
        Desk f = Desk.onBoard(8, 2);
        for (int place = 0; place <= 3; place++) {
            f.press(2);
            f.save(place);
        }
        for (int place = 3; place >= 0; place--) {
            Check.due("back(" + place + ")", f.back(place), true);
            Edges.dueState("kept at " + place, f, place + 1, 0, 0, place + 1, 0);
        }
        Edges.duePresses("on from place 0", f, 0, 3, 2);
        Check.due("over what was kept: save(2)", f.save(2), true);
        int[][] want = {{1, 0, 1}, {2, 0, 2}, {2, 1, 3}, {4, 0, 4}};
        for (int place = 0; place <= 3; place++) {
            f.back(place);
            Edges.dueState("kept at " + place, f, want[place][0], want[place][1], 0, want[place][2], 0);
        }
    }

    private static void keepAll(Desk f) {
        f.press(0);
        for (int place = 0; place <= 3; place++) {
            f.save(place);
        }
    }

    private static void dueKept(String when, Desk f, boolean want) {
        for (int place = 0; place <= 3; place++) {
            Check.due(when + ": back(" + place + ")", f.back(place), want);
        }
    }

    private static void keptGoesWithTheGame() {
        Check.sentence("Promise 8: (What is kept goes when a board, CELL, FOE, start is told.)");
        Desk f = Desk.onBoard(3, 3);
        keepAll(f);
        f.board(3, 3);
        dueKept("a board told", f, false);
        keepAll(f);
        f.cell(2, 2, 0);
        dueKept("a cell told", f, false);
        keepAll(f);
        f.foe(2, 2);
        dueKept("a foe told", f, false);
        keepAll(f);
        f.start(0, 0);
        dueKept("a start told", f, false);
        Check.due("kept again: save(2)", f.save(2), true);
        Check.due("kept again: back(2)", f.back(2), true);
        Check.due("none there: back(1)", f.back(1), false);
    }

    private static void keptStaysWithTheRest() {
        Check.sentence("Promise 8: (What is kept goes when a board, CELL, FOE, start is told.)");
        Desk f = Desk.onBoard(3, 3);
        keepAll(f);
        f.board(1, 3);
        f.cell(3, 0, 0);
        f.cell(0, 0, 9);
        f.foe(0, 3);
        f.start(-1, 0);
        dueKept("refused ones", f, true);
        f.begin();
        f.least();
        f.claim(1);
        f.unclaim();
        f.split(0, 0, 0, 0);
        f.unsplit();
        dueKept("others", f, true);
        f.road(0, 0, 0, 0, 1, 8, 0, 0);
        f.bar(0, true);
        f.goal(1, 0);
        f.anew(1);
        dueKept("roads", f, true);
    }

    private static void noneKeptThere() {
        Check.sentence("Promise 9: The STATE is that kept there: true; false: none is.");
        for (int place = 0; place <= 3; place++) {
            Desk f = Desk.onBoard(3, 3);
            f.save(place);
            for (int other = -1; other <= 4; other++) {
                Check.due("kept at " + place + ": back(" + other + ")", f.back(other), other == place);
            }
            for (int wrong : Edges.outside(0, 3)) {
                Check.due("back(" + wrong + ")", f.back(wrong), false);
            }
        }
    }

    private static void refusedBackChangesNothing() {
        Check.sentence("Promise 9: false: none is.");
        for (int wrong : new int[] {1, 3}) {
            Twins.dueUnchanged("none kept: back(" + wrong + ")", Twins::livedIn, d -> d.back(wrong));
        }
        for (int wrong : Edges.outside(0, 3)) {
            Twins.dueUnchanged("no place: back(" + wrong + ")", Twins::livedIn, d -> d.back(wrong));
        }
    }

    private static void backToAnyState() {
        Check.sentence("Terms: A STATE: the RUNNER's CELL, its KEYS, where in its ROUND the FOE is, the TICK, whether CAUGHT, ENDED, and the PRESSES");
        Desk f = Desk.onBoard(3, 3);
        f.cell(1, 0, 3);
        f.cell(2, 0, 8);
        f.foe(0, 2);
        f.foe(1, 1);
        f.save(0);
        f.press(2);
        f.save(1);
        f.press(2);
        f.save(2);
        f.begin();
        f.press(3);
        Check.due("caught: press(2)", f.press(2), 0);
        Check.due("caught: press(0)", f.press(0), 1);
        f.save(3);
        int[][] want = {{0, 0, 0, 0, 0, 0, 2}, {1, 0, 2, 1, 0, 1, 1}, {2, 0, 2, 2, 2, 0, 2}, {1, 1, 0, 3, 1, 1, 1}};
        int[] like = {1, NONE, 2, 1};
        f.claim(2);
        for (int i = 0; i < 8; i++) {
            int place = i * 3 % 4;
            Check.due("back(" + place + ")", f.back(place), true);
            for (int what = 0; what <= 6; what++) {
                Check.due("kept at " + place + ": state(" + what + ")", f.state(what), want[place][what]);
            }
            Check.due("its presses, kept at " + place + ": differs()", f.differs(), like[place]);
            Check.due("whether it is over, kept at " + place + ": least()", f.least(), new int[] {2, 1, 0, NONE}[place]);
        }
    }

    private static void backToFiveHundred() {
        Check.sentence("Promise 9: The STATE is that kept there; the PRESSES from the beginning (500 at most)");
        Desk f = new Desk();
        Edges.idle(f, 500);
        f.save(3);
        f.begin();
        Check.due("back(3)", f.back(3), true);
        Edges.dueState("all of them", f, 0, 0, 0, 500, 0);
        Check.due("one more: press(2)", f.press(2), NONE);
        Desk g = new Desk();
        Edges.idle(g, 499);
        g.save(0);
        g.press(0);
        g.back(0);
        Check.due("the last: press(2)", g.press(2), 0);
        Check.due("one more: press(2)", g.press(2), NONE);
    }

    private static void backAgain() {
        Check.sentence("Promise 9: The STATE is that kept there");
        Desk f = Desk.onBoard(4, 2);
        f.cell(3, 0, 8);
        f.press(2);
        f.save(0);
        for (int time = 0; time < 3; time++) {
            Check.due("again: back(0)", f.back(0), true);
            Edges.dueState("again", f, 1, 0, 0, 1, 0);
            Edges.duePresses("on from there", f, 0, 2);
            Edges.duePresses("to the end", f, 2, 2);
        }
    }

    private static void beginFromAnywhere() {
        Check.sentence("Promise 10: The run begins anew (what is kept stays).");
        Desk f = Desk.onBoard(3, 2);
        f.cell(1, 1, 4);
        f.cell(2, 1, 8);
        f.foe(1, 0);
        f.foe(2, 0);
        f.start(0, 1);
        f.begin();
        Edges.dueState("at the beginning", f, 0, 1, 0, 0, 0);
        Edges.duePresses("to the key", f, 0, 2);
        f.begin();
        Edges.dueState("with a key", f, 0, 1, 0, 0, 0);
        Edges.dueFoe("with a key", f, 1, 0);
        Check.due("no presses: differs()", f.differs(), NONE);
        Edges.duePresses("to the key", f, 0, 2);
        Edges.duePresses("to the goal", f, 2, 2);
        f.begin();
        Edges.dueState("ended", f, 0, 1, 0, 0, 0);
        Edges.duePresses("up", f, 0, 1);
        Edges.duePresses("to where it goes", f, 1, 2);
        f.begin();
        Edges.dueState("caught", f, 0, 1, 0, 0, 0);
        Edges.dueFoe("caught", f, 1, 0);
    }

    private static void beginLeavesTheRest() {
        Check.sentence("Promise 10: (what is kept stays)");
        Desk f = new Desk();
        Twins.livedIn(f);
        f.begin();
        int[] counts = {4, 3, 3, 3, 4, 6};
        for (int what = 0; what < counts.length; what++) {
            Check.due("count(" + what + ")", f.count(what), counts[what]);
        }
        Edges.dueRow("the row", f, 1, 2, 2, 2, 3);
        boolean[] kept = {true, false, true, false};
        for (int place = 0; place <= 3; place++) {
            Check.due("back(" + place + ")", f.back(place), kept[place]);
        }
        Twins.dueUnchanged("begin() of a run that has just begun", d -> livedInAndBegun(d), d -> d.begin());
    }

    private static void livedInAndBegun(Desk d) {
        Twins.livedIn(d);
        d.begin();
    }

    private static void noSuchRow() {
        Check.sentence("Promise 11: NONE: there is no such row");
        Desk f = Desk.onBoard(3, 2);
        Check.due("no goal: least()", f.least(), NONE);
        f.cell(2, 0, 8);
        f.cell(1, 0, 1);
        f.cell(1, 1, 1);
        Check.due("walls: least()", f.least(), NONE);
        Check.due("walls: best(0)", f.best(0), NONE);
        f.cell(1, 1, 7);
        Check.due("a door: least()", f.least(), NONE);
        f.cell(0, 1, 4);
        Check.due("its key: least()", f.least(), 4);
        for (int i = 1; i <= 6; i++) {
            f.foe(2, 0);
            Check.due("the foe stands there, a round of " + i + ": least()", f.least(), NONE);
        }
        Desk g = new Desk();
        g.cell(1, 1, 8);
        g.cell(1, 0, 1);
        g.cell(0, 1, 1);
        Check.due("walled in: least()", g.least(), NONE);
        Desk h = new Desk();
        h.cell(1, 1, 8);
        h.cell(0, 1, 1);
        h.foe(1, 1);
        h.foe(1, 0);
        Check.due("only by changing places with the foe: least()", h.least(), NONE);
        h.foe(1, 0);
        Check.due("the same with a tick more: least()", h.least(), NONE);
        h.foe(0, 1);
        Check.due("aside, but not long enough: least()", h.least(), NONE);
        h.foe(0, 1);
        Check.due("aside for two ticks: least()", h.least(), 4);
        Edges.dueRow("aside for two ticks", h, 0, 0, 2, 3);
    }

    private static void noSuchRowFromElsewhere() {
        Check.sentence("Promise 11: NONE: there is no such row");
        Desk f = Desk.onBoard(3, 2);
        f.cell(1, 0, 1);
        f.cell(1, 1, 1);
        f.cell(0, 1, 8);
        Check.due("beside the goal: least()", f.least(), 1);
        f.start(2, 0);
        Check.due("not from the other side of the walls: least()", f.least(), NONE);
        Edges.dueRow("not from the other side of the walls", f);
        Desk g = Desk.onBoard(8, 8);
        g.cell(7, 7, 8);
        Check.due("all of the board is looked at: least()", g.least(), 14);
        g.cell(6, 7, 1);
        g.cell(7, 6, 1);
        Check.due("all of it in vain: least()", g.least(), NONE);
        g.start(7, 7);
        Check.due("begun there: least()", g.least(), 1);
    }

    private static void leastWhenOver() {
        Check.sentence("Promise 11: NONE: the run is CAUGHT; 0 if it has ENDED.");
        Desk f = Desk.onBoard(3, 2);
        f.cell(2, 0, 8);
        f.foe(1, 1);
        f.least();
        Edges.duePresses("down", f, 0, 3);
        Edges.duePresses("onto it", f, 1, 2);
        Check.due("caught: least()", f.least(), NONE);
        Edges.dueRow("caught", f);
        f.begin();
        Check.due("begun anew: least()", f.least(), 2);
        Edges.dueRow("begun anew", f, 2, 2);
        f.press(2);
        f.press(2);
        Check.due("ended: least()", f.least(), 0);
        Edges.dueRow("ended", f);
    }

    private static void leastFromTheBeginning() {
        Check.sentence("Promise 11: LEAST; a GOAL at the beginning is not reached");
        for (int i = 0; i < 4; i++) {
            Desk f = Desk.onBoard(2, 2);
            f.cell(i % 2, i / 2, 8);
            f.start(i % 2, i / 2);
            Check.due("begun on the goal: least()", f.least(), 1);
            Edges.dueRow("begun on the goal", f, 0);
        }
        Desk g = Desk.onBoard(2, 2);
        g.cell(0, 0, 8);
        g.foe(0, 0);
        g.foe(0, 0);
        g.foe(1, 1);
        Check.due("not before the foe leaves: least()", g.least(), 2);
        Edges.dueRow("not before the foe leaves", g, 2, 4);
    }

    private static void leastAroundTheRound() {
        Check.sentence("Terms: LEAST: the fewest PRESSES from the STATE at hand; behind the last one on the first");
        Desk f = Desk.onBoard(3, 2);
        f.cell(1, 0, 8);
        f.cell(0, 1, 1);
        for (int i = 0; i < 5; i++) {
            f.foe(1, 0);
        }
        f.foe(2, 1);
        int[] least = {5, 4, 3, 2, 1, 6, 5, 4, 3, 2, 1, 6, 5};
        for (int tick = 0; tick < least.length; tick++) {
            Check.due("at tick " + tick + ": least()", f.least(), least[tick]);
            int[] row = new int[least[tick]];
            row[row.length - 1] = 2;
            Edges.dueRow("at tick " + tick, f, row);
            f.press(0);
        }
    }

    /** The foe is on the goal but for one tick of each round. */
    private static Desk goalFreeOnce(int cells, int free) {
        Desk f = Desk.onBoard(3, 2);
        f.cell(1, 0, 8);
        for (int i = 0; i < cells; i++) {
            f.foe(i == free ? 2 : 1, i == free ? 1 : 0);
        }
        return f;
    }

    private static void leastAtEachPlaceOfTheRound() {
        Check.sentence("Terms: on the next one with each TICK, behind the last one on the first; LEAST: from the STATE at hand");
        for (int cells = 1; cells <= 6; cells++) {
            for (int free = 0; free < cells; free++) {
                Desk f = goalFreeOnce(cells, free);
                for (int tick = 0; tick <= 2 * cells; tick++) {
                    int want = Math.floorMod(free - tick - 1, cells) + 1;
                    String when = "a round of " + cells + ", free at " + free + ", tick " + tick;
                    Check.due(when + ": least()", f.least(), want);
                    Check.due(when + ": best(" + (want - 1) + ")", f.best(want - 1), 2);
                    f.press(0);
                }
                Desk g = goalFreeOnce(cells, free);
                for (int tick = 1; tick <= 2 * cells; tick++) {
                    g.unsplit();
                    g.split(1, 0, tick, tick);
                    String when = "a round of " + cells + ", free at " + free + ", seen at " + tick;
                    Check.due(when + ": could()", g.could(), tick % cells == free ? 1 : 0);
                }
            }
        }
    }

    private static void leastFarAway() {
        Check.sentence("Terms: LEAST: the fewest PRESSES from the STATE at hand by which it has ENDED");
        Desk f = Desk.onBoard(8, 8);
        for (int x = 0; x < 8; x++) {
            for (int y = 1; y < 8; y += 2) {
                boolean gap = x == (y % 4 == 1 ? 7 : 0);
                f.cell(x, y, gap ? 0 : 1);
            }
        }
        f.cell(0, 7, 8);
        Check.due("the snake to its end: least()", f.least(), 35);
        Check.due("its last press: best(34)", f.best(34), 3);
        Check.due("none behind it: best(35)", f.best(35), NONE);
        f.cell(0, 7, 2);
        f.cell(1, 0, 8);
        f.cell(0, 0, 1);
        f.cell(2, 0, 5);
        f.start(3, 0);
        Check.due("the key at the far end, and back: least()", f.least(), 32 + 34);
        Check.due("to the key: best(31)", f.best(31), 3);
        Check.due("from the key: best(32)", f.best(32), 1);
        Check.due("its last press: best(65)", f.best(65), 4);
        Check.due("none behind it: best(66)", f.best(66), NONE);
    }

    /** All keys in corners, all doors in a row ahead of the goal, and a round of six. */
    private static void leastOfAllThereCanBe() {
        Check.sentence("Terms: LEAST, on 8 by 8 CELLS, with KEY 0 .. 2, DOOR 0 .. 2 and a ROUND of 6 CELLS");
        Desk f = Desk.onBoard(8, 8);
        int[][] cells = {
            {7, 0, 2}, {7, 7, 3}, {0, 7, 4}, {2, 4, 5}, {3, 4, 6}, {4, 4, 7}, {5, 4, 8}, {3, 3, 1}, {4, 3, 1}, {5, 3, 1},
            {3, 5, 1}, {4, 5, 1}, {5, 5, 1}, {6, 4, 1}};
        for (int[] c : cells) {
            f.cell(c[0], c[1], c[2]);
        }
        int[][] round = {{3, 1}, {4, 1}, {5, 1}, {5, 2}, {4, 2}, {3, 2}};
        for (int[] c : round) {
            f.foe(c[0], c[1]);
        }
        int[] row = {2, 2, 2, 2, 2, 2, 2, 3, 3, 3, 3, 3, 3, 3, 4, 4, 4, 4, 4, 4, 4, 1, 1, 1, 2, 2, 2, 2, 2};
        Check.due("three corners and three doors: least()", f.least(), 29);
        Edges.dueRow("three corners and three doors", f, row);
        for (int i = 0; i < 28; i++) {
            Check.due("press " + i + " of it", f.press(row[i]), 0);
        }
        Check.due("before its last: least()", f.least(), 1);
        Check.due("its last press", f.press(row[28]), 2);
        Edges.dueState("ended", f, 5, 4, 7, 29, 2);
        f.cell(4, 4, 1);
        Check.due("all is looked at in vain: least()", f.least(), NONE);
    }

    private static void firstOfSuchRows() {
        Check.sentence("Terms: of such rows the first by its PRESSES");
        int[][] goals = {{0, 0}, {2, 0}, {2, 2}, {0, 2}};
        int[][] rows = {{1, 1, 4, 4}, {1, 1, 2, 2}, {2, 2, 3, 3}, {3, 3, 4, 4}};
        for (int i = 0; i < 4; i++) {
            Desk f = Desk.onBoard(5, 5);
            f.start(2, 2);
            f.cell(goals[i][0] * 2, goals[i][1] * 2, 8);
            Check.due("to a corner: least()", f.least(), 4);
            Edges.dueRow("to a corner", f, rows[i]);
        }
        Desk g = Desk.onBoard(5, 5);
        g.start(2, 2);
        int[][] around = {{1, 2}, {2, 3}, {3, 2}, {2, 1}};
        int[] first = {4, 3, 2, 1};
        for (int i = 0; i < 4; i++) {
            g.cell(around[i][0], around[i][1], 8);
            Check.due("one more goal: least()", g.least(), 1);
            Edges.dueRow("one more goal", g, first[i]);
        }
        Desk h = Desk.onBoard(4, 2);
        h.cell(2, 0, 8);
        h.foe(3, 0);
        h.foe(3, 1);
        h.foe(2, 0);
        Check.due("a tick to wait somewhere: least()", h.least(), 3);
        Edges.dueRow("waited at once rather than later", h, 0, 2, 2);
        Desk k = Desk.onBoard(4, 2);
        k.cell(2, 0, 8);
        k.foe(0, 1);
        k.foe(0, 0);
        k.foe(2, 0);
        Check.due("no tick to wait at once: least()", k.least(), 3);
        Edges.dueRow("waited rather than held up by the edge", k, 2, 0, 2);
    }

    private static void leastChangesNothing() {
        Check.sentence("Promise 11: LEAST: from the STATE at hand");
        Twins.dueUnchanged("least()", RunEdgeTests::livedInAndSearched, d -> d.least());
        Twins.dueUnchangedLate("after 500: least()", d -> Edges.idle(d, 500), d -> d.least());
    }

    private static void livedInAndSearched(Desk d) {
        Twins.livedIn(d);
        d.least();
    }

    private static void pressesOfTheRow() {
        Check.sentence("Promise 12: PRESS k of the row of the latest least()");
        Desk f = Desk.onBoard(3, 3);
        f.cell(2, 2, 8);
        f.least();
        Edges.dueRow("the row", f, 2, 2, 3, 3);
        f.press(3);
        f.press(3);
        f.least();
        Edges.dueRow("the latest", f, 2, 2);
        f.press(2);
        f.least();
        Edges.dueRow("a row of one", f, 2);
    }

    private static void noSuchPressOfTheRow() {
        Check.sentence("Promise 12: NONE if there is none such.");
        Desk f = Desk.onBoard(3, 3);
        f.cell(2, 2, 8);
        for (int k = -1; k <= 4; k++) {
            Check.due("no least() yet: best(" + k + ")", f.best(k), NONE);
        }
        f.least();
        for (int wrong : Edges.outside(0, 3)) {
            Check.due("a row of 4: best(" + wrong + ")", f.best(wrong), NONE);
        }
        for (int k = -1; k <= 4; k++) {
            int told = k;
            Twins.dueUnchanged("best(" + k + ")", Twins::livedIn, d -> d.best(told));
        }
        f.cell(2, 2, 0);
        f.least();
        for (int k = -1; k <= 4; k++) {
            Check.due("the latest has no row: best(" + k + ")", f.best(k), NONE);
        }
    }

    private static void rowAsItWasThen() {
        Check.sentence("Promise 12: (as it was then)");
        Desk f = new Desk();
        Twins.livedIn(f);
        int[] row = {1, 2, 2, 2, 3};
        f.press(2);
        Edges.dueRow("another press", f, row);
        f.back(2);
        Edges.dueRow("back", f, row);
        f.begin();
        Edges.dueRow("begin", f, row);
        f.prove(3);
        f.could();
        f.unclaim();
        f.unsplit();
        Edges.dueRow("claims and splits", f, row);
        f.cell(0, 0, 1);
        Edges.dueRow("another cell", f, row);
        f.foe(1, 1);
        Edges.dueRow("another foe", f, row);
        f.start(3, 0);
        Edges.dueRow("another start", f, row);
        f.board(2, 2);
        Edges.dueRow("another board", f, row);
        f.least();
        Edges.dueRow("another least()", f);
    }
}
