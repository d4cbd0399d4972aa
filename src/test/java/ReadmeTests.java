/** The example of README.md, call by call. */
public final class ReadmeTests {
    public static void main(String[] args) {
        FastestRun desk = new FastestRun();
        Check.due("board", desk.board(3, 2), true);
        Check.due("cell", desk.cell(2, 0, 8), true);
        Check.due("foe", desk.foe(1, 1), true);
        Check.due("foe", desk.foe(1, 0), true);
        Check.due("least", desk.least(), 3);
        Check.due("best", desk.best(0), 0);
        Check.due("best", desk.best(1), 2);
        Check.due("best", desk.best(2), 2);
        Check.due("press", desk.press(0), 0);
        Check.due("claim", desk.claim(0), 1);
        Check.due("claim", desk.claim(2), 2);
        Check.due("claim", desk.claim(2), 3);
        Check.due("prove", desk.prove(3), 0);
        Check.due("differs", desk.differs(), 2);
        Check.due("split", desk.split(1, 0, 2, 2), 1);
        Check.due("could", desk.could(), 1);
        Check.due("goal", desk.goal(1, 0), true);
        Check.due("road", desk.road(0, 1, 0, 0, 9, 8, 0, 0), 0);
        Check.due("road", desk.road(0, 1, 0, 0, 4, 4, 0, 3), 1);
        Check.due("sure", desk.sure(), 9);
        Check.due("chance", desk.chance(0, 0, 8), 805306368L);
        Check.due("choice", desk.choice(0, 0, 8), 1);
        Check.end();
    }
}
