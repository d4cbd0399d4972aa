/** The edges of the game's making: sizes, cells, the foe's round, the beginning; promises 1 to 5. */
public final class GameEdgeTests {
    private static final int NONE = FastestRun.NONE;
    private static final int[][] SIZES = {{2, 2}, {8, 8}, {2, 8}, {8, 2}, {3, 5}};
    private static final int[][] ROUND = {{2, 2}, {3, 2}, {3, 3}, {2, 3}, {2, 2}, {1, 3}};

    public static void main(String[] args) {
        newBoard();
        newWithoutAnything();
        newObjectsShareNothing();
        sizesOfABoard();
        refusedBoardChangesNothing();
        boardIsAllFloor();
        boardIsAllFloorForSplits();
        boardEmptiesTheGame();
        boardLeavesTheRest();
        cellsOfABoard();
        cellsOfASmallerBoard();
        kindsOfCells();
        eachKindIsItsOwn();
        eachKindForSplitsBehindIt();
        refusedCellChangesNothing();
        cellBeginsAnew();
        foeOnCellsOfTheBoard();
        foeOnAnyKind();
        noFoe();
        sixCellsOfTheRound();
        refusedFoeChangesNothing();
        seventhFoeChangesNothing();
        foeBeginsAnew();
        roundGoesOnAndAround();
        roundAroundToTheLastTick();
        startOnCellsOfTheBoard();
        refusedStartChangesNothing();
        startBeginsAnew();
        startOnAnyKind();
        startOnAKey();
        startOnAGoal();
        startOnTheFoe();
        Check.end();
    }

    private static void newBoard() {
        Check.sentence("Promise 1: A board of 2 by 2, floor, no FOE, the RUNNER at 0, 0; no ROADS.");
        Desk f = new Desk();
        int[] counts = {2, 2, 0, 0, 0, 0};
        for (int what = 0; what < counts.length; what++) {
            Check.due("new: count(" + what + ")", f.count(what), counts[what]);
        }
        Edges.dueState("new", f, 0, 0, 0, 0, 0);
        Edges.dueFoe("new", f, NONE, NONE);
        Check.due("no goal: least()", f.least(), NONE);
        int[][] way = {{2, 1, 0}, {3, 1, 1}, {4, 0, 1}, {1, 0, 0}};
        for (int i = 0; i < way.length; i++) {
            Check.due("floor: press(" + way[i][0] + ")", f.press(way[i][0]), 0);
            Edges.dueState("floor", f, way[i][1], way[i][2], 0, i + 1, 0);
        }
    }

    private static void newWithoutAnything() {
        Check.sentence("Promise 1: A board of 2 by 2, floor, no FOE, the RUNNER at 0, 0; no ROADS.");
        Desk f = new Desk();
        for (int place = 0; place < 4; place++) {
            Check.due("nothing kept: back(" + place + ")", f.back(place), false);
        }
        Check.due("no row: best(0)", f.best(0), NONE);
        Check.due("no claim: differs()", f.differs(), NONE);
        Check.due("no claim: prove(0)", f.prove(0), 4);
        Check.due("no splits: could()", f.could(), 0);
        Check.due("no roads: bar(0, true)", f.bar(0, true), false);
        Check.due("goal of ROOM 0, none: sure()", f.sure(), 0);
        Check.due("goal of ROOM 0, none: chance(0, 15, 0)", f.chance(0, 15, 0), Edges.ALL);
        for (int room = 1; room <= 9; room++) {
            Check.due("no roads, no ANEW: chance(" + room + ", 15, 300)", f.chance(room, 15, 300), 0);
            Check.due("no roads, no ANEW: choice(" + room + ", 15, 300)", f.choice(room, 15, 300), NONE);
        }
        Check.due("the first one: claim(0)", f.claim(0), 1);
        Check.due("the first one: split(1, 1, 0, 0)", f.split(1, 1, 0, 0), 1);
        Check.due("the first one: road(..)", f.road(0, 0, 0, 0, 1, 8, 0, 0), 0);
    }

    private static void newObjectsShareNothing() {
        Check.sentence("Promise 1: FastestRun(): A board of 2 by 2, floor, no FOE, the RUNNER at 0, 0; no ROADS.");
        Twins.dueUnchanged("the life of another object", d -> { }, d -> Twins.livedIn(new Desk()));
        Twins.dueUnchanged("the life of another object", Twins::livedIn, d -> Twins.livedIn(new Desk()));
    }

    private static void sizesOfABoard() {
        Check.sentence("Terms: a board of W by H CELLS (2 .. 8 each)");
        Desk f = new Desk();
        int w = 2;
        int h = 2;
        for (int newW = -1; newW <= 10; newW++) {
            for (int newH = -1; newH <= 10; newH++) {
                boolean allowed = newW >= 2 && newW <= 8 && newH >= 2 && newH <= 8;
                w = allowed ? newW : w;
                h = allowed ? newH : h;
                Check.due("board(" + newW + ", " + newH + ")", f.board(newW, newH), allowed);
                Check.due("after board(" + newW + ", " + newH + "): count(0)", f.count(0), w);
                Check.due("after board(" + newW + ", " + newH + "): count(1)", f.count(1), h);
            }
        }
        Desk g = new Desk();
        for (int wrong : Edges.outside(2, 8)) {
            Check.due("board(" + wrong + ", 2)", g.board(wrong, 2), false);
            Check.due("board(8, " + wrong + ")", g.board(8, wrong), false);
        }
    }

    private static void refusedBoardChangesNothing() {
        Check.sentence("Promise 2: false: no such size.");
        int[][] wrong = {{1, 3}, {4, 1}, {9, 3}, {4, 9}, {0, 0}, {-4, -3}, {Integer.MAX_VALUE, Integer.MIN_VALUE}};
        for (int[] size : wrong) {
            Twins.dueUnchanged("board(" + size[0] + ", " + size[1] + ")", Twins::livedIn, d -> d.board(size[0], size[1]));
        }
    }

    private static void boardIsAllFloor() {
        Check.sentence("Promise 2: A board, all floor, no FOE");
        Desk f = Desk.onBoard(8, 8);
        for (int i = 0; i < 64; i++) {
            f.cell(i % 8, i / 8, 1 + i % 8);
        }
        f.board(8, 8);
        for (int tick = 1; tick < 64; tick++) {
            int y = tick / 8;
            int x = y % 2 == 0 ? tick % 8 : 7 - tick % 8;
            int press = tick % 8 == 0 ? 3 : y % 2 == 0 ? 2 : 4;
            Check.due("to " + x + ", " + y + ": press(" + press + ")", f.press(press), 0);
            Check.due("at " + x + ", " + y + ": state(0)", f.state(0), x);
            Check.due("at " + x + ", " + y + ": state(1)", f.state(1), y);
        }
        Check.due("no keys on it: state(2)", f.state(2), 0);
    }

    private static void boardIsAllFloorForSplits() {
        Check.sentence("Promise 2: A board, all floor, no FOE");
        for (int kind = 0; kind <= 8; kind++) {
            Desk f = Desk.onBoard(3, 2);
            f.cell(1, 0, kind);
            f.foe(0, 1);
            f.board(3, 2);
            f.split(0, 1, 1, 1);
            f.split(1, 1, 2, 2);
            f.split(1, 0, 3, 3);
            f.split(2, 0, 4, 4);
            Check.due("kind " + kind + " before: could()", f.could(), 4);
            for (int door = 0; door < 3; door++) {
                f.board(3, 2);
                f.cell(2, 0, 5 + door);
                f.split(1, 0, 1, 1);
                f.split(2, 0, 2, 2);
                Check.due("kind " + kind + " before, no key of door " + door + ": could()", f.could(), 1);
            }
        }
    }

    private static void boardEmptiesTheGame() {
        Check.sentence("Promise 2: no FOE; the RUNNER begins at 0, 0, the run begins; no SPLITS, no CLAIM: true");
        int[][] sizes = {{4, 3}, {2, 2}, {8, 8}};
        for (int[] size : sizes) {
            Desk f = new Desk();
            Twins.livedIn(f);
            Check.due("board(..)", f.board(size[0], size[1]), true);
            int[] counts = {size[0], size[1], 0, 0, 0};
            for (int what = 0; what < counts.length; what++) {
                Check.due("count(" + what + ")", f.count(what), counts[what]);
            }
            Edges.dueState("board(..)", f, 0, 0, 0, 0, 0);
            Edges.dueFoe("board(..)", f, NONE, NONE);
            Check.due("no presses, no claim: differs()", f.differs(), NONE);
            Check.due("no splits: could()", f.could(), 0);
            for (int place = 0; place < 4; place++) {
                Check.due("what is kept goes: back(" + place + ")", f.back(place), false);
            }
            Check.due("no goal: least()", f.least(), NONE);
            f.press(2);
            f.begin();
            Edges.dueState("0, 0 is the beginning", f, 0, 0, 0, 0, 0);
        }
    }

    private static void boardLeavesTheRest() {
        Check.sentence("Promise 2: A board, all floor, no FOE; the RUNNER begins at 0, 0, the run begins; no SPLITS, no CLAIM");
        Desk f = new Desk();
        Twins.livedIn(f);
        f.board(2, 2);
        Check.due("roads stay: count(5)", f.count(5), 6);
        Check.due("roads stay: sure()", f.sure(), 21);
        Check.due("the price stays: chance(9, 0, 29)", f.chance(9, 0, 29), Edges.ALL);
        Edges.dueRow("the row as it was then", f, 1, 2, 2, 2, 3);
    }

    private static void cellsOfABoard() {
        Check.sentence("Promise 3: A CELL is so: true; false: no such CELL (x from 0, y from 0 down)");
        for (int[] size : SIZES) {
            Desk f = Desk.onBoard(size[0], size[1]);
            for (int x = -1; x <= size[0]; x++) {
                for (int y = -1; y <= size[1]; y++) {
                    boolean there = x >= 0 && x < size[0] && y >= 0 && y < size[1];
                    Check.due("of " + size[0] + " by " + size[1] + ": cell(" + x + ", " + y + ", 1)", f.cell(x, y, 1), there);
                }
            }
            for (int wrong : Edges.outside(0, size[0] - 1)) {
                Check.due("of " + size[0] + " wide: cell(" + wrong + ", 0, 0)", f.cell(wrong, 0, 0), false);
            }
            for (int wrong : Edges.outside(0, size[1] - 1)) {
                Check.due("of " + size[1] + " high: cell(0, " + wrong + ", 0)", f.cell(0, wrong, 0), false);
            }
        }
    }

    private static void cellsOfASmallerBoard() {
        Check.sentence("Promise 3: false: no such CELL");
        Desk f = Desk.onBoard(8, 8);
        f.board(3, 2);
        Check.due("cell(2, 1, 0)", f.cell(2, 1, 0), true);
        Check.due("cell(3, 1, 0)", f.cell(3, 1, 0), false);
        Check.due("cell(2, 2, 0)", f.cell(2, 2, 0), false);
        Check.due("foe(3, 0)", f.foe(3, 0), false);
        Check.due("start(0, 2)", f.start(0, 2), false);
        Check.due("split(3, 0, 0, 0)", f.split(3, 0, 0, 0), NONE);
        f.board(2, 3);
        Check.due("cell(1, 2, 0)", f.cell(1, 2, 0), true);
        Check.due("cell(2, 1, 0)", f.cell(2, 1, 0), false);
    }

    private static void kindsOfCells() {
        Check.sentence("Promise 3: false: no such CELL, kind (0 floor .. 8 GOAL)");
        Desk f = Desk.onBoard(3, 2);
        for (int kind = 0; kind <= 8; kind++) {
            Check.due("cell(2, 1, " + kind + ")", f.cell(2, 1, kind), true);
        }
        for (int wrong : Edges.outside(0, 8)) {
            Check.due("cell(2, 1, " + wrong + ")", f.cell(2, 1, wrong), false);
        }
        Check.due("the last one allowed stands: least()", f.least(), 3);
    }

    private static void eachKindIsItsOwn() {
        Check.sentence("Terms: 0 floor, 1 wall, 2 .. 4 KEY 0 .. 2, 5 .. 7 DOOR 0 .. 2, 8 GOAL");
        int[] x = {1, 0, 1, 1, 1, 0, 0, 0, 1};
        int[] keys = {0, 0, 1, 2, 4, 0, 0, 0, 0};
        int[] how = {0, 0, 0, 0, 0, 0, 0, 0, 2};
        for (int kind = 0; kind <= 8; kind++) {
            Desk f = Desk.onBoard(3, 2);
            for (int before = 0; before <= 8; before++) {
                f.cell(1, 0, before);
                f.cell(1, 0, kind);
                Check.due("kind " + kind + " after " + before + ": press(2)", f.press(2), how[kind]);
                Edges.dueState("kind " + kind + " after " + before, f, x[kind], 0, keys[kind], 1, how[kind]);
                int could = f.split(1, 0, 1, 1) == 1 ? f.could() : NONE;
                Check.due("kind " + kind + " after " + before + ": could()", could, x[kind]);
                f.unsplit();
            }
        }
    }

    private static void eachKindForSplitsBehindIt() {
        Check.sentence("Terms: 0 floor, 1 wall, 2 .. 4 KEY 0 .. 2, 5 .. 7 DOOR 0 .. 2, 8 GOAL");
        for (int kind = 0; kind <= 8; kind++) {
            for (int before = 0; before <= 8; before++) {
                Desk f = Desk.onBoard(3, 2);
                f.cell(1, 0, before);
                f.cell(1, 0, kind);
                f.split(2, 0, 2, 2);
                String when = "kind " + kind + " after " + before;
                Check.due(when + ", past it: could()", f.could(), kind == 0 || kind >= 2 && kind <= 4 ? 1 : 0);
                for (int door = 0; door < 3; door++) {
                    f.cell(2, 0, 5 + door);
                    Check.due(when + ", door " + door + " behind it: could()", f.could(), kind == 2 + door ? 1 : 0);
                }
            }
        }
    }

    private static void refusedCellChangesNothing() {
        Check.sentence("Promise 3: false: no such CELL, kind.");
        int[][] wrong = {{-1, 0, 8}, {4, 0, 8}, {0, -1, 8}, {0, 3, 8}, {Integer.MAX_VALUE, 0, 0}, {0, Integer.MIN_VALUE, 0}};
        for (int[] c : wrong) {
            Twins.dueUnchanged("cell(" + c[0] + ", " + c[1] + ", " + c[2] + ")", Twins::livedIn, d -> d.cell(c[0], c[1], c[2]));
        }
        for (int kind : new int[] {-1, 9}) {
            Twins.dueUnchanged("kind " + kind + " on every cell", Twins::livedIn, d -> kindEverywhere(d, kind));
        }
    }

    private static void kindEverywhere(Desk d, int kind) {
        for (int i = 0; i < 12; i++) {
            d.cell(i % 4, i / 4, kind);
        }
    }

    private static void cellBeginsAnew() {
        Check.sentence("Promise 3: A CELL is so: true (the run begins anew)");
        Desk f = new Desk();
        Twins.livedIn(f);
        Check.due("the same kind again: cell(1, 1, 1)", f.cell(1, 1, 1), true);
        dueBegunAnew(f, 0, 1);
        Check.due("the round stays: count(2)", f.count(2), 3);
        Check.due("the claim stays: count(3)", f.count(3), 3);
        Check.due("the splits stay: count(4)", f.count(4), 4);
    }

    private static void dueBegunAnew(Desk f, int x, int y) {
        Edges.dueState("begun anew", f, x, y, 0, 0, 0);
        Check.due("no presses: differs()", f.differs(), 1);
        Edges.dueFoe("begun anew", f, 2, 1);
        for (int place = 0; place < 4; place++) {
            Check.due("what is kept goes: back(" + place + ")", f.back(place), false);
        }
    }

    private static void foeOnCellsOfTheBoard() {
        Check.sentence("Promise 4: false: no such CELL");
        for (int[] size : SIZES) {
            for (int x = -1; x <= size[0]; x++) {
                Desk f = Desk.onBoard(size[0], size[1]);
                boolean inside = x >= 0 && x < size[0];
                Check.due("of " + size[0] + " wide: foe(" + x + ", 1)", f.foe(x, 1), inside);
                Edges.dueFoe("foe(" + x + ", 1)", f, inside ? x : NONE, inside ? 1 : NONE);
            }
            for (int y = -1; y <= size[1]; y++) {
                Desk f = Desk.onBoard(size[0], size[1]);
                boolean inside = y >= 0 && y < size[1];
                Check.due("of " + size[1] + " high: foe(1, " + y + ")", f.foe(1, y), inside);
                Edges.dueFoe("foe(1, " + y + ")", f, inside ? 1 : NONE, inside ? y : NONE);
            }
        }
        Desk g = Desk.onBoard(8, 8);
        for (int wrong : Edges.outside(0, 7)) {
            Check.due("foe(" + wrong + ", 0)", g.foe(wrong, 0), false);
            Check.due("foe(0, " + wrong + ")", g.foe(0, wrong), false);
        }
        Check.due("none of them came: count(2)", g.count(2), 0);
    }

    private static void foeOnAnyKind() {
        Check.sentence("Terms: The FOE's ROUND: 0 .. 6 CELLS of the board");
        Desk f = Desk.onBoard(3, 3);
        f.foe(2, 2);
        for (int kind = 1; kind <= 5; kind++) {
            f.cell(1, 1, kind);
            Check.due("on kind " + kind + ": foe(1, 1)", f.foe(1, 1), true);
            f.press(0);
            Edges.dueFoe("on kind " + kind, f, 1, 1);
        }
        Desk g = Desk.onBoard(3, 3);
        for (int kind = 6; kind <= 8; kind++) {
            g.cell(1, 1, kind);
            Check.due("on kind " + kind + ": foe(1, 1)", g.foe(1, 1), true);
            Edges.dueFoe("on kind " + kind, g, 1, 1);
        }
    }

    private static void noFoe() {
        Check.sentence("Terms: The FOE's ROUND: 0 .. 6 CELLS of the board (none: no FOE)");
        Desk f = Desk.onBoard(3, 3);
        Check.due("count(2)", f.count(2), 0);
        int[] presses = {2, 2, 3, 3, 4, 4, 1, 1, 0};
        for (int press : presses) {
            Check.due("none to meet: press(" + press + ")", f.press(press), 0);
            Edges.dueFoe("none", f, NONE, NONE);
        }
    }

    private static void sixCellsOfTheRound() {
        Check.sentence("Promise 4: The FOE's ROUND has a CELL more: true; false: 6 there are.");
        Desk f = Desk.onBoard(4, 4);
        for (int i = 0; i < 6; i++) {
            Check.due("cell " + i + " of the round: foe(..)", f.foe(ROUND[i][0], ROUND[i][1]), true);
            Check.due("after cell " + i + ": count(2)", f.count(2), i + 1);
        }
        Check.due("a seventh: foe(3, 0)", f.foe(3, 0), false);
        Check.due("a seventh, one of the six: foe(2, 2)", f.foe(2, 2), false);
        Check.due("a seventh, no cell: foe(4, 4)", f.foe(4, 4), false);
        Check.due("six: count(2)", f.count(2), 6);
        f.board(4, 4);
        Check.due("none again, one more: foe(3, 0)", f.foe(3, 0), true);
        Check.due("one: count(2)", f.count(2), 1);
        Desk g = Desk.onBoard(2, 2);
        for (int i = 0; i < 6; i++) {
            Check.due("the same cell " + i + " times before: foe(1, 1)", g.foe(1, 1), true);
        }
        Check.due("the same cell a seventh time: foe(1, 1)", g.foe(1, 1), false);
    }

    private static void refusedFoeChangesNothing() {
        Check.sentence("Promise 4: false: no such CELL");
        int[][] wrong = {{-1, 0}, {4, 0}, {0, -1}, {0, 3}, {Integer.MIN_VALUE, 0}, {0, Integer.MAX_VALUE}};
        for (int[] c : wrong) {
            Twins.dueUnchanged("foe(" + c[0] + ", " + c[1] + ")", Twins::livedIn, d -> d.foe(c[0], c[1]));
        }
    }

    private static void seventhFoeChangesNothing() {
        Check.sentence("Promise 4: false: 6 there are.");
        Twins.dueUnchanged("a seventh foe(3, 2)", GameEdgeTests::livedInWithSix, d -> d.foe(3, 2));
        Twins.dueUnchanged("a seventh foe(0, 0)", GameEdgeTests::livedInWithSix, d -> d.foe(0, 0));
    }

    private static void livedInWithSix(Desk d) {
        Twins.livedIn(d);
        d.foe(2, 1);
        d.foe(3, 1);
        d.foe(3, 2);
        d.press(3);
        d.save(1);
        d.press(1);
    }

    private static void foeBeginsAnew() {
        Check.sentence("Promise 4: The FOE's ROUND has a CELL more: true (the run begins anew)");
        Desk f = new Desk();
        Twins.livedIn(f);
        Check.due("foe(1, 0)", f.foe(1, 0), true);
        dueBegunAnew(f, 0, 1);
        Check.due("the claim stays: count(3)", f.count(3), 3);
        Check.due("the splits stay: count(4)", f.count(4), 4);
    }

    private static void roundGoesOnAndAround() {
        Check.sentence("Terms: it is on the first one at TICK 0, on the next one with each TICK, behind the last one on the first");
        for (int cells = 1; cells <= 6; cells++) {
            Desk f = Desk.onBoard(4, 4);
            for (int i = 0; i < cells; i++) {
                f.foe(ROUND[i][0], ROUND[i][1]);
            }
            for (int tick = 0; tick <= 3 * cells + 1; tick++) {
                int[] at = ROUND[tick % cells];
                Edges.dueFoe("round of " + cells + " at tick " + tick, f, at[0], at[1]);
                Check.due("round of " + cells + " at tick " + tick + ": press(0)", f.press(0), 0);
            }
            f.begin();
            Edges.dueFoe("round of " + cells + ", begun anew", f, ROUND[0][0], ROUND[0][1]);
        }
    }

    private static void roundAroundToTheLastTick() {
        Check.sentence("Terms: behind the last one on the first");
        for (int cells = 4; cells <= 6; cells++) {
            Desk f = Desk.onBoard(4, 4);
            for (int i = 0; i < cells; i++) {
                f.foe(ROUND[i][0], ROUND[i][1]);
            }
            Edges.idle(f, 500);
            int[] at = ROUND[500 % cells];
            Edges.dueFoe("round of " + cells + " at tick 500", f, at[0], at[1]);
        }
    }

    private static void startOnCellsOfTheBoard() {
        Check.sentence("Promise 5: The RUNNER begins there: true; false: no such CELL.");
        for (int[] size : SIZES) {
            Desk f = Desk.onBoard(size[0], size[1]);
            for (int x = -1; x <= size[0]; x++) {
                for (int y = -1; y <= size[1]; y++) {
                    boolean there = x >= 0 && x < size[0] && y >= 0 && y < size[1];
                    Check.due("of " + size[0] + " by " + size[1] + ": start(" + x + ", " + y + ")", f.start(x, y), there);
                    if (there) {
                        Check.due("start(" + x + ", " + y + "): state(0)", f.state(0), x);
                        Check.due("start(" + x + ", " + y + "): state(1)", f.state(1), y);
                    }
                }
            }
            Edges.dueState("the last one allowed stands", f, size[0] - 1, size[1] - 1, 0, 0, 0);
        }
        Desk g = Desk.onBoard(8, 8);
        for (int wrong : Edges.outside(0, 7)) {
            Check.due("start(" + wrong + ", 0)", g.start(wrong, 0), false);
            Check.due("start(0, " + wrong + ")", g.start(0, wrong), false);
        }
    }

    private static void refusedStartChangesNothing() {
        Check.sentence("Promise 5: false: no such CELL.");
        int[][] wrong = {{-1, 0}, {4, 0}, {0, -1}, {0, 3}, {Integer.MAX_VALUE, 0}, {0, Integer.MIN_VALUE}};
        for (int[] c : wrong) {
            Twins.dueUnchanged("start(" + c[0] + ", " + c[1] + ")", Twins::livedIn, d -> d.start(c[0], c[1]));
        }
    }

    private static void startBeginsAnew() {
        Check.sentence("Promise 5: The RUNNER begins there: true (the run begins anew)");
        int[][] cells = {{0, 1}, {3, 2}};
        for (int[] c : cells) {
            Desk f = new Desk();
            Twins.livedIn(f);
            Check.due("start(" + c[0] + ", " + c[1] + ")", f.start(c[0], c[1]), true);
            dueBegunAnew(f, c[0], c[1]);
            Check.due("the claim stays: count(3)", f.count(3), 3);
            Check.due("the splits stay: count(4)", f.count(4), 4);
            Check.due("the round stays: count(2)", f.count(2), 3);
        }
    }

    private static void startOnAnyKind() {
        Check.sentence("Terms: The RUNNER begins at a told CELL, without KEYS, whatever that CELL is");
        for (int kind = 0; kind <= 8; kind++) {
            Desk f = Desk.onBoard(3, 2);
            f.cell(1, 1, kind);
            Check.due("on kind " + kind + ": start(1, 1)", f.start(1, 1), true);
            Edges.dueState("on kind " + kind, f, 1, 1, 0, 0, 0);
            Check.due("off kind " + kind + ": press(4)", f.press(4), 0);
            Edges.dueState("off kind " + kind, f, 0, 1, 0, 1, 0);
            f.begin();
            Edges.dueState("begun on kind " + kind, f, 1, 1, 0, 0, 0);
            f.start(0, 0);
            f.start(1, 1);
            f.cell(1, 1, kind);
            Edges.dueState("the cell told behind the start, kind " + kind, f, 1, 1, 0, 0, 0);
        }
        int[] shut = {1, 5, 6, 7};
        for (int kind : shut) {
            Desk f = Desk.onBoard(3, 2);
            f.cell(1, 1, kind);
            f.start(1, 1);
            Edges.duePresses("stays on kind " + kind, f, 0, 0, 3);
            Edges.dueState("stays on kind " + kind, f, 1, 1, 0, 2, 0);
            Edges.duePresses("leaves kind " + kind, f, 0, 2);
            Edges.duePresses("can't come back to kind " + kind, f, 0, 4);
            Edges.dueState("can't come back to kind " + kind, f, 2, 1, 0, 4, 0);
        }
    }

    private static void startOnAKey() {
        Check.sentence("Terms: a KEY there isn't taken");
        for (int key = 0; key < 3; key++) {
            Desk f = Desk.onBoard(3, 2);
            f.cell(0, 0, 2 + key);
            f.cell(1, 0, 5 + key);
            Edges.dueState("on key " + key, f, 0, 0, 0, 0, 0);
            Edges.duePresses("against its door", f, 0, 2);
            Edges.dueState("the tick there took key " + key, f, 0, 0, 1 << key, 1, 0);
            Edges.duePresses("through its door", f, 0, 2);
            Edges.dueState("through its door", f, 1, 0, 1 << key, 2, 0);
            f.begin();
            Edges.dueState("begun anew on key " + key, f, 0, 0, 0, 0, 0);
            Edges.duePresses("off it at once", f, 0, 3);
            Edges.dueState("off it at once", f, 0, 1, 0, 1, 0);
            f.split(1, 0, 1, 1);
            Check.due("not through the door at tick 1: could()", f.could(), 0);
            f.unsplit();
            f.split(1, 0, 2, 2);
            Check.due("at tick 2: could()", f.could(), 1);
        }
    }

    private static void startOnAGoal() {
        Check.sentence("Terms: a GOAL not reached");
        Desk f = Desk.onBoard(2, 2);
        f.cell(0, 0, 8);
        Edges.dueState("on the goal", f, 0, 0, 0, 0, 0);
        Check.due("empty claim: prove(0)", f.prove(0), 4);
        Check.due("not ended: least()", f.least(), 1);
        Edges.dueRow("a tick on it", f, 0);
        Edges.duePresses("off it", f, 0, 2);
        Edges.duePresses("back on it", f, 2, 4);
        Edges.dueState("back on it", f, 0, 0, 0, 2, 2);
        f.begin();
        Edges.dueState("begun anew", f, 0, 0, 0, 0, 0);
        Edges.duePresses("a tick on it", f, 2, 1);
        Edges.dueState("a tick on it", f, 0, 0, 0, 1, 2);
    }

    private static void startOnTheFoe() {
        Check.sentence("Terms: a FOE there does nothing");
        Desk f = Desk.onBoard(3, 2);
        f.foe(0, 0);
        f.foe(1, 0);
        f.foe(2, 0);
        Edges.dueState("with the foe", f, 0, 0, 0, 0, 0);
        Edges.dueFoe("with the foe", f, 0, 0);
        Edges.duePresses("it goes, the runner stays", f, 0, 0);
        f.begin();
        Edges.duePresses("it goes, the runner elsewhere", f, 0, 3);
        f.begin();
        Edges.duePresses("both to one cell", f, 1, 2);
        f.begin();
        Edges.dueState("begun anew", f, 0, 0, 0, 0, 0);
        f.split(0, 0, 0, 0);
        Check.due("seen with it at tick 0: could()", f.could(), 1);
        Desk g = Desk.onBoard(3, 2);
        g.foe(0, 0);
        Edges.duePresses("a foe that stays, the runner too", g, 1, 0);
        g.begin();
        Edges.duePresses("a foe that stays, the runner leaves", g, 0, 2);
    }
}
