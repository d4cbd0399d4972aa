import java.util.Random;

/** Long runs of calls, drawn with told seeds, on the program and on the slow model side by side. */
public final class ModelTests {
    private static final int RUNS = 2000;
    // No step makes more calls of its desk, so that each of them ends within what the document speaks of.
    private static final int CALLS_OF_A_STEP = 12;

    private final Random random;
    private final String name;
    private final Desk f = new Desk();
    private final SlowModel m = new SlowModel();
    private int w = 2;
    private int h = 2;

    private ModelTests(int seed) {
        random = new Random(seed);
        name = "seed " + seed + " ";
    }

    public static void main(String[] args) {
        for (int seed = 0; seed < RUNS && !Check.failed(); seed++) {
            ModelTests test = new ModelTests(seed);
            // One half each, as calls of the two halves of the desk do not touch one another.
            for (int i = 0; test.f.callsLeft() >= CALLS_OF_A_STEP && !Check.failed(); i++) {
                if (seed % 2 == 0) {
                    test.callOfGame(i);
                } else {
                    test.callOfRoads(i);
                }
            }
        }
        Check.end();
    }

    /** Mostly low .. high, now and then just beside it. */
    private int near(int low, int high) {
        int odd = random.nextInt(60);
        return odd == 0 ? low - 1 : odd == 1 ? high + 1 : low + random.nextInt(high - low + 1);
    }

    private void callOfGame(int i) {
        int kind = i < 12 ? random.nextInt(25) : random.nextInt(120);
        if (i == 0 || kind == 60) {
            board();
        } else if (kind < 4) {
            startOrFoe();
        } else if (kind < 25 && (i < 40 || kind < 8)) {
            cell();
        } else if (kind < 62) {
            callOfRun(kind);
        } else if (kind < 90) {
            callOfClaim(kind);
        } else {
            callOfSplits(kind);
        }
    }

    private void board() {
        int newW = near(2, random.nextInt(4) == 0 ? 8 : 4);
        int newH = near(2, random.nextInt(4) == 0 ? 8 : 3);
        boolean want = m.board(newW, newH);
        Check.due(name + "board", f.board(newW, newH), want);
        if (want) {
            w = newW;
            h = newH;
        }
    }

    private void startOrFoe() {
        int x = near(0, w - 1);
        int y = near(0, h - 1);
        if (random.nextInt(3) == 0) {
            Check.due(name + "start", f.start(x, y), m.start(x, y));
        } else {
            Check.due(name + "foe", f.foe(x, y), m.foe(x, y));
        }
    }

    private void cell() {
        int x = near(0, w - 1);
        int y = near(0, h - 1);
        int kind = random.nextInt(3) == 0 ? 8 : near(0, 8);
        Check.due(name + "cell", f.cell(x, y, kind), m.cell(x, y, kind));
    }

    private void callOfRun(int kind) {
        int place = near(0, 3);
        if (kind < 40) {
            int press = near(0, 4);
            Check.due(name + "press", f.press(press), m.press(press));
        } else if (kind < 46) {
            Check.due(name + "save", f.save(place), m.save(place));
        } else if (kind < 52) {
            Check.due(name + "back", f.back(place), m.back(place));
        } else if (kind < 56) {
            f.begin();
            m.begin();
        } else {
            Check.due(name + "least", f.least(), m.least());
            for (int i = 0; i < 4; i++) {
                int k = near(0, 11);
                Check.due(name + "best " + k, f.best(k), m.best(k));
            }
        }
        for (int i = 0; i < 2; i++) {
            int what = near(0, 6);
            Check.due(name + "state " + what, f.state(what), m.state(what));
        }
    }

    private void callOfClaim(int kind) {
        if (kind < 75) {
            int press = near(0, 4);
            Check.due(name + "claim", f.claim(press), m.claim(press));
        } else if (kind < 80) {
            claimTheRow();
        } else if (kind < 83) {
            f.unclaim();
            m.unclaim();
        } else {
            int ticks = random.nextInt(3) == 0 ? near(0, 6) : m.count(3);
            Check.due(name + "prove", f.prove(ticks), m.prove(ticks));
        }
        Check.due(name + "differs", f.differs(), m.differs());
    }

    /** Presses drawn blindly hardly ever end a run, so the row found goes into the claim. */
    private void claimTheRow() {
        f.unclaim();
        m.unclaim();
        f.begin();
        m.begin();
        Check.due(name + "least", f.least(), m.least());
        for (int k = 0; m.best(k) != FastestRun.NONE && f.callsLeft() >= CALLS_OF_A_STEP; k++) {
            Check.due(name + "claim of best", f.claim(f.best(k)), m.claim(m.best(k)));
            if (random.nextInt(8) > 0) {
                Check.due(name + "press of best", f.press(f.best(k)), m.press(m.best(k)));
            }
        }
    }

    private void callOfSplits(int kind) {
        if (kind < 105) {
            int x = near(0, w - 1);
            int y = near(0, h - 1);
            int a = random.nextInt(40) == 0 ? near(0, 200) : near(0, 9);
            int b = random.nextInt(40) == 0 ? near(0, 200) : a + near(0, 3);
            Check.due(name + "split", f.split(x, y, a, b), m.split(x, y, a, b));
        } else if (kind < 108) {
            f.unsplit();
            m.unsplit();
        } else if (kind < 111) {
            Check.due(name + "could", f.could(), m.could());
        }
        int what = near(0, 5);
        Check.due(name + "count " + what, f.count(what), m.count(what));
    }

    private void callOfRoads(int i) {
        int kind = i < 15 ? random.nextInt(10) : random.nextInt(60);
        if (kind < 8) {
            road();
        } else if (kind < 10) {
            int room = near(0, 4);
            int things = random.nextBoolean() ? near(0, 15) : 1 << random.nextInt(4);
            Check.due(name + "goal", f.goal(room, things), m.goal(room, things));
        } else if (kind < 13) {
            int price = near(0, random.nextInt(5) == 0 ? 100 : 5);
            Check.due(name + "anew", f.anew(price), m.anew(price));
        } else if (kind < 20) {
            int road = near(0, Math.max(m.count(5) - 1, 0));
            boolean on = random.nextInt(3) == 0;
            Check.due(name + "bar", f.bar(road, on), m.bar(road, on));
        } else if (kind < 30) {
            Check.due(name + "sure", f.sure(), m.sure());
        } else {
            askRoads();
        }
        Check.due(name + "count 5", f.count(5), m.count(5));
    }

    private void road() {
        int mostTicks = random.nextInt(10) == 0 ? 100 : 12;
        int odds = random.nextBoolean() ? 8 : near(1, 8);
        int[] r = {
            near(0, 5), near(0, 5), near(0, 15) & near(0, 15), near(0, 15) & near(0, 15),
            near(1, mostTicks), odds, near(0, 5), near(1, mostTicks)};
        Check.due(name + "road", roadOf(f, r), roadOf(m, r));
    }

    private static int roadOf(Face desk, int[] r) {
        return desk.road(r[0], r[1], r[2], r[3], r[4], r[5], r[6], r[7]);
    }

    private void askRoads() {
        int room = near(0, random.nextInt(9) == 0 ? 9 : 5);
        int things = near(0, 15);
        int left = random.nextInt(9) == 0 ? near(0, 300) : near(0, 40);
        Check.due(name + "chance", f.chance(room, things, left), m.chance(room, things, left));
        Check.due(name + "choice", f.choice(room, things, left), m.choice(room, things, left));
    }
}
