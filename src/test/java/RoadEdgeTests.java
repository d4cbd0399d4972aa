/** The edges of roads, the goal, ANEW and what follows from them; promises 20 to 26. */
public final class RoadEdgeTests {
    private static final int NONE = FastestRun.NONE;
    private static final int ANEW = -2;
    private static final int NO_SUCH = -3;
    private static final long ALL = Edges.ALL;

    private static final int FROM = 0;
    private static final int TO = 1;
    private static final int NEEDS = 2;
    private static final int GIVES = 3;
    private static final int TICKS = 4;
    private static final int ODDS = 5;
    private static final int FAIL_ROOM = 6;
    private static final int FAIL_TICKS = 7;

    public static void main(String[] args) {
        roomsOfARoad();
        thingsOfARoad();
        ticksOfARoad();
        oddsOfARoad();
        failingOfARoad();
        failingOfSureOnes();
        fortyRoads();
        fortyRoadsWithAllThings();
        refusedRoadChangesNothing();
        fullRoadsChangeNothing();
        roadToTheSameRoom();
        barsThereAre();
        refusedBarChangesNothing();
        barredCannotBeGone();
        barredAndNotAgain();
        goalsThereAre();
        refusedGoalChangesNothing();
        goalWithAllOfTheseAtLeast();
        goalAtFirst();
        pricesThereAre();
        refusedPriceChangesNothing();
        noPriceNotAllowed();
        anewWithoutThings();
        sureIsMetAtOnce();
        noSureWay();
        sureRoadsAlone();
        sureWithoutAnew();
        longestSureWay();
        askedChancesThereAre();
        refusedAskingChangesNothing();
        allOfItIfMet();
        noughtTicksLeft();
        ticksBelowNought();
        ticksLeftOfFailing();
        ticksLeftOfAnew();
        threeHundredLeft();
        needsAtTheirEdges();
        failsIntoTheGoal();
        nothingGivenIfItFails();
        chanceIsCut();
        chanceCutToNought();
        chanceWithoutAny();
        allRoomsWithAllThings();
        choiceOfTheLeastNumber();
        choiceOfAnewOnlyIfGreater();
        noChoice();
        askingChangesNothing();
        Check.end();
    }

    private static int roadOf(Desk f, int[] r) {
        return f.road(r[FROM], r[TO], r[NEEDS], r[GIVES], r[TICKS], r[ODDS], r[FAIL_ROOM], r[FAIL_TICKS]);
    }

    private static int[] plain(int odds) {
        return new int[] {0, 1, 0, 0, 5, odds, 0, 5};
    }

    /** Every value from just below low to just above high, and far ones, of a road that else can be. */
    private static void dueRange(String part, int which, int low, int high, int odds) {
        for (int value = low - 1; value <= high + 1; value++) {
            boolean allowed = value >= low && value <= high;
            dueRoad(part, which, value, odds, allowed);
        }
        for (int value : Edges.outside(low, high)) {
            dueRoad(part, which, value, odds, false);
        }
    }

    private static void dueRoad(String part, int which, int value, int odds, boolean allowed) {
        Desk f = new Desk();
        int[] road = plain(odds);
        road[which] = value;
        Check.due(part + " " + value + ": road(..)", roadOf(f, road), allowed ? 0 : NONE);
        Check.due(part + " " + value + ": count(5)", f.count(5), allowed ? 1 : 0);
    }

    private static void roomsOfARoad() {
        Check.sentence("Terms: ROADS .. between ROOMS 0 .. 9: from one to another (or the same one)");
        for (int odds : new int[] {8, 4}) {
            dueRange("from", FROM, 0, 9, odds);
            dueRange("to", TO, 0, 9, odds);
        }
    }

    private static void thingsOfARoad() {
        Check.sentence("Terms: with THINGS that it needs and gives (bits, 0 .. 15)");
        dueRange("needs", NEEDS, 0, 15, 8);
        dueRange("gives", GIVES, 0, 15, 8);
    }

    private static void ticksOfARoad() {
        Check.sentence("Terms: TICKS 1 .. 100");
        dueRange("ticks", TICKS, 1, 100, 8);
        dueRange("ticks", TICKS, 1, 100, 1);
        for (int ticks : new int[] {1, 100}) {
            Desk f = new Desk();
            f.goal(1, 0);
            f.road(0, 1, 0, 0, ticks, 8, 0, 0);
            Check.due("a road of " + ticks + ": sure()", f.sure(), ticks);
            Check.due("a road of " + ticks + ": chance(0, 0, " + (ticks - 1) + ")", f.chance(0, 0, ticks - 1), 0);
            Check.due("a road of " + ticks + ": chance(0, 0, " + ticks + ")", f.chance(0, 0, ticks), ALL);
        }
    }

    private static void oddsOfARoad() {
        Check.sentence("Terms: ODDS 1 .. 8 (of 8; 8: it is sure)");
        dueRange("odds", ODDS, 1, 8, 8);
        for (int odds = 1; odds <= 8; odds++) {
            Desk f = new Desk();
            f.goal(1, 0);
            f.road(0, 1, 0, 0, 5, odds, 0, 5);
            Check.due("odds " + odds + ": chance(0, 0, 5)", f.chance(0, 0, 5), ALL / 8 * odds);
            Check.due("odds " + odds + ": sure()", f.sure(), odds == 8 ? 5 : NONE);
        }
    }

    private static void failingOfARoad() {
        Check.sentence("Terms: and, if it fails, a ROOM and TICKS 1 .. 100");
        for (int odds : new int[] {1, 4, 7}) {
            dueRange("odds " + odds + ", the failing's room", FAIL_ROOM, 0, 9, odds);
            dueRange("odds " + odds + ", the failing's ticks", FAIL_TICKS, 1, 100, odds);
        }
    }

    private static void failingOfSureOnes() {
        Check.sentence("Terms: (nothing given; of sure ones not looked at)");
        int[] any = {0, 9, 10, -1, 1, 100, 101, Integer.MIN_VALUE, Integer.MAX_VALUE};
        for (int room : any) {
            for (int ticks : any) {
                Desk f = new Desk();
                f.goal(1, 0);
                String road = "road(0, 1, 0, 0, 5, 8, " + room + ", " + ticks + ")";
                Check.due(road, f.road(0, 1, 0, 0, 5, 8, room, ticks), 0);
                Check.due(road + ": chance(0, 0, 5)", f.chance(0, 0, 5), ALL);
                Check.due(road + ": chance(0, 0, 4)", f.chance(0, 0, 4), 0);
                Check.due(road + ": choice(0, 0, 300)", f.choice(0, 0, 300), 0);
                Check.due(road + ": sure()", f.sure(), 5);
            }
        }
    }

    private static void fortyRoads() {
        Check.sentence("Promise 20: A ROAD: its number; NONE: it can't be, or there are 40.");
        Desk f = new Desk();
        f.goal(9, 0);
        for (int i = 0; i < 39; i++) {
            Check.due("number " + i + ": road(..)", f.road(i % 9, i % 9, 0, 0, 1, 8, 0, 0), i);
            Check.due("number " + i + ": count(5)", f.count(5), i + 1);
        }
        Check.due("not yet: chance(0, 0, 300)", f.chance(0, 0, 300), 0);
        Check.due("the last: road(..)", f.road(0, 9, 0, 0, 7, 8, 0, 0), 39);
        Check.due("the last is gone: choice(0, 0, 7)", f.choice(0, 0, 7), 39);
        Check.due("the last is gone: sure()", f.sure(), 7);
        Check.due("one more: road(..)", f.road(0, 9, 0, 0, 1, 8, 0, 0), NONE);
        Check.due("one more, that can't be: road(..)", f.road(0, 10, 0, 0, 1, 8, 0, 0), NONE);
        Check.due("forty: count(5)", f.count(5), 40);
        Check.due("not that one: sure()", f.sure(), 7);
        Check.due("the last is barred: bar(39, true)", f.bar(39, true), true);
        Check.due("none behind it: bar(40, true)", f.bar(40, true), false);
        Check.due("barred ones are roads: road(..)", f.road(0, 9, 0, 0, 1, 8, 0, 0), NONE);
        Check.due("without it: sure()", f.sure(), NONE);
    }

    private static void fortyRoadsWithAllThings() {
        Check.sentence("Terms: ROADS, at most 40, .. with THINGS that it needs and gives (bits, 0 .. 15)");
        Desk f = new Desk();
        f.goal(1, 15);
        for (int i = 0; i < 4; i++) {
            f.road(0, 0, 0, 1 << i, 1, 8, 0, 0);
        }
        for (int i = 4; i < 39; i++) {
            f.road(0, 0, 0, 0, 50, 8, 0, 0);
        }
        f.road(0, 1, 0, 0, 1, 8, 0, 0);
        Check.due("all of the roads can be gone with any things: sure()", f.sure(), 5);
        for (int things = 0; things <= 15; things++) {
            int ticks = 5 - Integer.bitCount(things);
            Check.due("chance(0, " + things + ", " + ticks + ")", f.chance(0, things, ticks), ALL);
            Check.due("chance(0, " + things + ", " + (ticks - 1) + ")", f.chance(0, things, ticks - 1), 0);
            int first = things == 15 ? 39 : Integer.numberOfTrailingZeros(~things);
            Check.due("choice(0, " + things + ", " + ticks + ")", f.choice(0, things, ticks), first);
        }
    }

    private static void refusedRoadChangesNothing() {
        Check.sentence("Promise 20: NONE: it can't be");
        int[][] wrong = {
            {-1, 3, 0, 4, 1, 8, 0, 1}, {10, 3, 0, 4, 1, 8, 0, 1}, {0, -1, 0, 4, 1, 8, 0, 1}, {0, 10, 0, 4, 1, 8, 0, 1},
            {0, 3, -1, 4, 1, 8, 0, 1}, {0, 3, 16, 4, 1, 8, 0, 1}, {0, 3, 0, -1, 1, 8, 0, 1}, {0, 3, 0, 16, 1, 8, 0, 1},
            {0, 3, 0, 4, 0, 8, 0, 1}, {0, 3, 0, 4, 101, 8, 0, 1}, {0, 3, 0, 4, 1, 0, 0, 1}, {0, 3, 0, 4, 1, 9, 0, 1},
            {0, 3, 0, 4, 1, 7, -1, 1}, {0, 3, 0, 4, 1, 7, 10, 1}, {0, 3, 0, 4, 1, 7, 0, 0}, {0, 3, 0, 4, 1, 7, 0, 101}};
        for (int i = 0; i < wrong.length; i++) {
            int[] road = wrong[i];
            Twins.dueUnchanged("wrong road " + i, Twins::livedIn, d -> roadOf(d, road));
            Twins.dueUnchanged("wrong road " + i + " after chances", RoadEdgeTests::livedInAndAsked, d -> roadOf(d, road));
        }
    }

    private static void livedInAndAsked(Desk d) {
        Twins.livedIn(d);
        d.chance(0, 0, 300);
        d.chance(4, 15, 20);
    }

    private static void fullRoadsChangeNothing() {
        Check.sentence("Promise 20: NONE: there are 40.");
        Twins.dueUnchanged("a 41st road(..)", RoadEdgeTests::livedInWithForty, d -> d.road(0, 3, 0, 4, 1, 8, 0, 0));
        Twins.dueUnchanged("a 41st road(..), a trick", RoadEdgeTests::livedInWithForty, d -> d.road(0, 3, 0, 15, 1, 7, 3, 1));
    }

    private static void livedInWithForty(Desk d) {
        Twins.livedIn(d);
        for (int i = 6; i < 40; i++) {
            d.road(i % 10, 3, i % 16, i % 16, 50 + i, 1 + i % 8, i % 10, i);
        }
    }

    private static void roadToTheSameRoom() {
        Check.sentence("Terms: from one to another (or the same one)");
        Desk f = new Desk();
        f.goal(0, 8);
        Check.due("not yet: sure()", f.sure(), NONE);
        f.road(0, 0, 0, 8, 9, 8, 0, 0);
        Check.due("it gives a thing: sure()", f.sure(), 9);
        Check.due("it gives a thing: chance(0, 0, 9)", f.chance(0, 0, 9), ALL);
        Check.due("it gives a thing: choice(0, 0, 9)", f.choice(0, 0, 9), 0);
        Check.due("of room 0 alone: chance(9, 0, 300)", f.chance(9, 0, 300), 0);
    }

    private static void barsThereAre() {
        Check.sentence("Promise 21: A ROAD is barred, or not: true; false: none such.");
        Desk f = new Desk();
        for (boolean on : new boolean[] {true, false}) {
            Check.due("no roads: bar(0, " + on + ")", f.bar(0, on), false);
        }
        for (int roads = 1; roads <= 40; roads++) {
            f.road(0, 1, 0, 0, 1, 8, 0, 0);
            Check.due("of " + roads + " roads: bar(-1, true)", f.bar(-1, true), false);
            Check.due("of " + roads + " roads: bar(0, true)", f.bar(0, true), true);
            Check.due("of " + roads + " roads: bar(" + (roads - 1) + ", false)", f.bar(roads - 1, false), true);
            Check.due("of " + roads + " roads: bar(" + roads + ", true)", f.bar(roads, true), false);
        }
        for (int wrong : Edges.outside(0, 39)) {
            Check.due("bar(" + wrong + ", true)", f.bar(wrong, true), false);
            Check.due("bar(" + wrong + ", false)", f.bar(wrong, false), false);
        }
    }

    private static void refusedBarChangesNothing() {
        Check.sentence("Promise 21: false: none such.");
        for (int wrong : new int[] {-1, 6, 39, 40, Integer.MIN_VALUE, Integer.MAX_VALUE}) {
            for (boolean on : new boolean[] {true, false}) {
                Twins.dueUnchanged("bar(" + wrong + ", " + on + ")", Twins::livedIn, d -> d.bar(wrong, on));
            }
        }
        Desk f = new Desk();
        f.bar(0, true);
        f.goal(1, 0);
        f.road(0, 1, 0, 0, 5, 8, 0, 0);
        Check.due("barred ahead of its coming, so not barred: sure()", f.sure(), 5);
    }

    private static void barredCannotBeGone() {
        Check.sentence("Terms: Barred ones can't be gone.");
        for (int barred = 0; barred < 4; barred++) {
            Desk f = new Desk();
            f.goal(1, 0);
            for (int i = 0; i < 4; i++) {
                f.road(0, 1, 0, 0, 10 + i, 8, 0, 0);
            }
            for (int i = 0; i < barred; i++) {
                f.bar(i, true);
            }
            Check.due(barred + " barred: sure()", f.sure(), 10 + barred);
            Check.due(barred + " barred: chance(0, 0, " + (9 + barred) + ")", f.chance(0, 0, 9 + barred), 0);
            Check.due(barred + " barred: chance(0, 0, " + (10 + barred) + ")", f.chance(0, 0, 10 + barred), ALL);
            Check.due(barred + " barred: choice(0, 0, 300)", f.choice(0, 0, 300), barred);
            f.bar(3, true);
            Check.due("the last barred: sure()", f.sure(), barred < 3 ? 10 + barred : NONE);
            Check.due("the last barred: choice(0, 0, 300)", f.choice(0, 0, 300), barred < 3 ? barred : NONE);
        }
    }

    private static void barredAndNotAgain() {
        Check.sentence("Promise 21: A ROAD is barred, or not: true");
        Desk f = new Desk();
        f.goal(1, 0);
        f.road(0, 1, 0, 0, 5, 4, 0, 5);
        boolean[] told = {false, true, true, false, false, true};
        for (boolean on : told) {
            Check.due("bar(0, " + on + ")", f.bar(0, on), true);
            Check.due("bar(0, " + on + "): chance(0, 0, 5)", f.chance(0, 0, 5), on ? 0 : ALL / 2);
            Check.due("bar(0, " + on + "): choice(0, 0, 5)", f.choice(0, 0, 5), on ? NONE : 0);
            Check.due("bar(0, " + on + "): count(5)", f.count(5), 1);
        }
    }

    private static void goalsThereAre() {
        Check.sentence("Promise 22: The GOAL: true; false: no such ROOM, THINGS.");
        for (int room = -1; room <= 10; room++) {
            for (int things = -1; things <= 16; things++) {
                Desk f = new Desk();
                boolean allowed = room >= 0 && room <= 9 && things >= 0 && things <= 15;
                Check.due("goal(" + room + ", " + things + ")", f.goal(room, things), allowed);
                if (allowed) {
                    Check.due("goal(" + room + ", " + things + "): chance there", f.chance(room, things, 0), ALL);
                }
            }
        }
        Desk g = new Desk();
        for (int wrong : Edges.outside(0, 9)) {
            Check.due("goal(" + wrong + ", 0)", g.goal(wrong, 0), false);
        }
        for (int wrong : Edges.outside(0, 15)) {
            Check.due("goal(1, " + wrong + ")", g.goal(1, wrong), false);
        }
        Check.due("none of them is it: sure()", g.sure(), 0);
    }

    private static void refusedGoalChangesNothing() {
        Check.sentence("Promise 22: false: no such ROOM, THINGS.");
        int[][] wrong = {{-1, 0}, {10, 0}, {0, -1}, {0, 16}, {Integer.MIN_VALUE, 4}, {3, Integer.MAX_VALUE}};
        for (int[] g : wrong) {
            Twins.dueUnchanged("goal(" + g[0] + ", " + g[1] + ")", Twins::livedIn, d -> d.goal(g[0], g[1]));
            Twins.dueUnchanged("goal(" + g[0] + ", " + g[1] + ") after chances", RoadEdgeTests::livedInAndAsked, d -> d.goal(g[0], g[1]));
        }
    }

    private static void goalWithAllOfTheseAtLeast() {
        Check.sentence("Terms: a GOAL is a ROOM and THINGS (there with all of these at least)");
        for (int needed = 0; needed <= 15; needed++) {
            Desk f = new Desk();
            f.goal(4, needed);
            for (int things = 0; things <= 15; things++) {
                boolean all = (needed & ~things) == 0;
                Check.due("goal(4, " + needed + "): chance(4, " + things + ", 0)", f.chance(4, things, 0), all ? ALL : 0);
                Check.due("goal(4, " + needed + "): chance(5, " + things + ", 300)", f.chance(5, things, 300), 0);
            }
            f.road(0, 4, 0, needed, 2, 8, 0, 0);
            Check.due("given just these: sure()", f.sure(), 2);
            f.goal(4, 15);
            Check.due("all are asked for: sure()", f.sure(), needed == 15 ? 2 : NONE);
        }
    }

    private static void goalAtFirst() {
        Check.sentence("Terms: One begins in ROOM 0 without THINGS; a GOAL (ROOM 0, none, at first)");
        Desk f = new Desk();
        for (int room = 0; room <= 9; room++) {
            for (int things = 0; things <= 15; things += 5) {
                Check.due("chance(" + room + ", " + things + ", 0)", f.chance(room, things, 0), room == 0 ? ALL : 0);
            }
        }
        Check.due("sure()", f.sure(), 0);
        f.goal(0, 1);
        Check.due("begun without things: sure()", f.sure(), NONE);
        f.goal(1, 0);
        Check.due("begun in room 0: sure()", f.sure(), NONE);
        f.road(1, 1, 0, 0, 1, 8, 0, 0);
        f.road(9, 1, 0, 0, 1, 8, 0, 0);
        Check.due("not from another room: sure()", f.sure(), NONE);
        f.road(0, 1, 1, 0, 1, 8, 0, 0);
        Check.due("not with a thing: sure()", f.sure(), NONE);
    }

    private static void pricesThereAre() {
        Check.sentence("Promise 23: ANEW's price: true; false for others (1 .. 100 TICKS, 0: not allowed).");
        Desk f = new Desk();
        for (int price = -1; price <= 101; price++) {
            boolean allowed = price >= 0 && price <= 100;
            Check.due("anew(" + price + ")", f.anew(price), allowed);
            if (price >= 1 && price <= 100) {
                Check.due("anew(" + price + "): chance(1, 0, " + (price - 1) + ")", f.chance(1, 0, price - 1), 0);
                Check.due("anew(" + price + "): chance(1, 0, " + price + ")", f.chance(1, 0, price), ALL);
            }
        }
        for (int wrong : Edges.outside(0, 100)) {
            Check.due("anew(" + wrong + ")", f.anew(wrong), false);
        }
        Check.due("the last one allowed stands: chance(1, 0, 100)", f.chance(1, 0, 100), ALL);
        Check.due("the last one allowed stands: chance(1, 0, 99)", f.chance(1, 0, 99), 0);
    }

    private static void refusedPriceChangesNothing() {
        Check.sentence("Promise 23: false for others.");
        for (int wrong : new int[] {-1, 101, Integer.MIN_VALUE, Integer.MAX_VALUE}) {
            Twins.dueUnchanged("anew(" + wrong + ")", Twins::livedIn, d -> d.anew(wrong));
            Twins.dueUnchanged("anew(" + wrong + ") after chances", RoadEdgeTests::livedInAndAsked, d -> d.anew(wrong));
        }
    }

    private static void noPriceNotAllowed() {
        Check.sentence("Terms: ANEW: a price of 1 .. 100 TICKS (0: not allowed, at first)");
        Desk f = new Desk();
        Check.due("at first: chance(5, 0, 300)", f.chance(5, 0, 300), 0);
        Check.due("at first: choice(5, 0, 300)", f.choice(5, 0, 300), NONE);
        f.anew(1);
        Check.due("anew(1): chance(5, 0, 1)", f.chance(5, 0, 1), ALL);
        Check.due("anew(1): choice(5, 0, 1)", f.choice(5, 0, 1), ANEW);
        Check.due("anew(1): chance(5, 0, 0)", f.chance(5, 0, 0), 0);
        Check.due("anew(0)", f.anew(0), true);
        Check.due("anew(0): chance(5, 0, 300)", f.chance(5, 0, 300), 0);
        Check.due("anew(0): choice(5, 0, 300)", f.choice(5, 0, 300), NONE);
    }

    private static void anewWithoutThings() {
        Check.sentence("Terms: ANEW .. for which one is in ROOM 0 without THINGS");
        Desk f = new Desk();
        f.anew(5);
        f.goal(0, 2);
        Check.due("its things are gone: chance(3, 15, 300)", f.chance(3, 15, 300), 0);
        f.goal(3, 0);
        f.road(0, 3, 4, 0, 1, 8, 0, 0);
        Check.due("what a road needs is gone: chance(2, 15, 300)", f.chance(2, 15, 300), 0);
        f.road(0, 0, 0, 4, 2, 8, 0, 0);
        Check.due("and has to be taken again: chance(2, 15, 7)", f.chance(2, 15, 7), 0);
        Check.due("and has to be taken again: chance(2, 15, 8)", f.chance(2, 15, 8), ALL);
        Check.due("had in room 0: chance(0, 15, 1)", f.chance(0, 15, 1), ALL);
    }

    private static void sureIsMetAtOnce() {
        Check.sentence("Promise 24: BEST: the fewest TICKS to the GOAL by sure ROADS");
        Desk f = new Desk();
        Check.due("met where one begins: sure()", f.sure(), 0);
        f.road(0, 0, 0, 1, 1, 8, 0, 0);
        Check.due("met, whatever roads there are: sure()", f.sure(), 0);
        f.goal(0, 1);
        Check.due("a thing to take first: sure()", f.sure(), 1);
    }

    private static void noSureWay() {
        Check.sentence("Promise 24: NONE: there is no such way.");
        Desk f = new Desk();
        f.goal(2, 0);
        Check.due("no roads: sure()", f.sure(), NONE);
        f.road(0, 1, 0, 0, 1, 8, 0, 0);
        Check.due("not all the way: sure()", f.sure(), NONE);
        f.road(2, 1, 0, 0, 1, 8, 0, 0);
        Check.due("the other way about: sure()", f.sure(), NONE);
        f.road(1, 2, 1, 0, 1, 8, 0, 0);
        Check.due("a thing lacks: sure()", f.sure(), NONE);
        f.road(1, 1, 0, 14, 1, 8, 0, 0);
        Check.due("other things: sure()", f.sure(), NONE);
        f.road(1, 1, 14, 1, 1, 8, 0, 0);
        Check.due("the thing: sure()", f.sure(), 4);
        f.bar(4, true);
        Check.due("barred: sure()", f.sure(), NONE);
    }

    private static void sureRoadsAlone() {
        Check.sentence("Terms: ODDS 8: it is sure; BEST: by sure ROADS");
        Desk f = new Desk();
        f.goal(1, 0);
        f.road(0, 1, 0, 0, 1, 7, 1, 1);
        Check.due("odds 7, though it fails into the goal: sure()", f.sure(), NONE);
        Check.due("odds 7, though it fails into the goal: chance(0, 0, 1)", f.chance(0, 0, 1), ALL);
        f.road(0, 1, 0, 0, 100, 8, 0, 0);
        Check.due("odds 8: sure()", f.sure(), 100);
    }

    private static void sureWithoutAnew() {
        Check.sentence("Terms: BEST: .. without ANEW");
        Desk f = new Desk();
        f.goal(2, 1);
        f.road(0, 1, 0, 1, 1, 8, 0, 0);
        f.road(1, 0, 0, 0, 50, 8, 0, 0);
        f.road(0, 2, 0, 0, 1, 8, 0, 0);
        f.anew(1);
        Check.due("the long way back: sure()", f.sure(), 52);
        f.bar(1, true);
        Check.due("no way back: sure()", f.sure(), NONE);
    }

    private static void longestSureWay() {
        Check.sentence("Promise 24: BEST: the fewest TICKS to the GOAL");
        Desk f = new Desk();
        f.goal(9, 15);
        for (int i = 0; i < 9; i++) {
            f.road(8 - i, 9 - i, 0, 0, 100, 8, 0, 0);
        }
        Check.due("there without things: sure()", f.sure(), NONE);
        for (int i = 0; i < 4; i++) {
            f.road(9, 0, (1 << i) - 1, 1 << i, 100, 8, 0, 0);
        }
        Check.due("five times all the way: sure()", f.sure(), 5 * 900 + 400);
        f.road(9, 9, 7, 8, 100, 8, 0, 0);
        Check.due("four times: sure()", f.sure(), 4 * 900 + 400);
    }

    private static void askedChancesThereAre() {
        Check.sentence("Promise 25, 26: NONE, -3: no such ROOM, THINGS, TICKS (0 .. 300).");
        Desk f = new Desk();
        dueAsked(f, 0, 0, 0, true);
        dueAsked(f, 9, 15, 300, true);
        for (int room = -1; room <= 10; room++) {
            dueAsked(f, room, 0, 300, room >= 0 && room <= 9);
        }
        for (int things = -1; things <= 16; things++) {
            dueAsked(f, 0, things, 0, things >= 0 && things <= 15);
        }
        for (int left : new int[] {-1, 0, 1, 299, 300, 301}) {
            dueAsked(f, 0, 0, left, left >= 0 && left <= 300);
        }
        for (int wrong : Edges.outside(0, 9)) {
            dueAsked(f, wrong, 0, 0, false);
        }
        for (int wrong : Edges.outside(0, 15)) {
            dueAsked(f, 0, wrong, 0, false);
        }
        for (int wrong : Edges.outside(0, 300)) {
            dueAsked(f, 0, 0, wrong, false);
        }
    }

    private static void dueAsked(Desk f, int room, int things, int left, boolean allowed) {
        String what = "(" + room + ", " + things + ", " + left + ")";
        Check.due("chance" + what, f.chance(room, things, left), !allowed ? NONE : room == 0 ? ALL : 0);
        Check.due("choice" + what, f.choice(room, things, left), !allowed ? NO_SUCH : NONE);
    }

    private static void refusedAskingChangesNothing() {
        Check.sentence("Promise 25, 26: NONE, -3: no such ROOM, THINGS, TICKS (0 .. 300).");
        int[][] wrong = {{-1, 0, 0}, {10, 0, 0}, {0, -1, 0}, {0, 16, 0}, {0, 0, -1}, {0, 0, 301}};
        for (int[] c : wrong) {
            String what = "(" + c[0] + ", " + c[1] + ", " + c[2] + ")";
            Twins.dueUnchanged("chance" + what, Twins::livedIn, d -> d.chance(c[0], c[1], c[2]));
            Twins.dueUnchanged("choice" + what, Twins::livedIn, d -> d.choice(c[0], c[1], c[2]));
        }
    }

    private static void allOfItIfMet() {
        Check.sentence("Terms: CHANCE .. in parts of 2 to the 30: all of it, if the GOAL is met");
        Desk f = new Desk();
        f.goal(9, 8);
        f.anew(1);
        f.road(9, 0, 0, 0, 1, 1, 0, 1);
        for (int left : new int[] {0, 1, 300}) {
            Check.due("chance(9, 8, " + left + ")", f.chance(9, 8, left), 1073741824L);
            Check.due("chance(9, 15, " + left + ")", f.chance(9, 15, left), 1073741824L);
            Check.due("choice(9, 8, " + left + ")", f.choice(9, 8, left), NONE);
            Check.due("a thing lacks: chance(9, 7, " + left + ")", f.chance(9, 7, left), 0);
        }
    }

    private static Desk oneRoad(int ticks, int odds, int failRoom, int failTicks) {
        Desk f = new Desk();
        f.goal(1, 0);
        f.road(0, 1, 0, 0, ticks, odds, failRoom, failTicks);
        return f;
    }

    private static void noughtTicksLeft() {
        Check.sentence("Terms: CHANCE with so many TICKS left (0: the GOAL may be met, nothing can be gone)");
        Desk f = oneRoad(1, 8, 0, 0);
        f.anew(1);
        Check.due("met with 0 left: chance(1, 0, 0)", f.chance(1, 0, 0), ALL);
        Check.due("not met with 0 left: chance(0, 0, 0)", f.chance(0, 0, 0), 0);
        Check.due("not met with 0 left: choice(0, 0, 0)", f.choice(0, 0, 0), NONE);
        Check.due("met with 0 left behind the road: chance(0, 0, 1)", f.chance(0, 0, 1), ALL);
        Check.due("met with 0 left behind the road: choice(0, 0, 1)", f.choice(0, 0, 1), 0);
        Check.due("not met with 0 left behind ANEW: chance(2, 0, 1)", f.chance(2, 0, 1), 0);
        Check.due("met with 0 left behind ANEW and the road: chance(2, 0, 2)", f.chance(2, 0, 2), ALL);
    }

    private static void ticksBelowNought() {
        Check.sentence("Terms: (0 with TICKS below 0 left)");
        for (int ticks : new int[] {1, 2, 50, 99, 100}) {
            Desk f = oneRoad(ticks, 8, 0, 0);
            Check.due("a road of " + ticks + ", one too few", f.chance(0, 0, ticks - 1), 0);
            Check.due("a road of " + ticks + ", one too few: choice", f.choice(0, 0, ticks - 1), NONE);
            Check.due("a road of " + ticks + ", just enough", f.chance(0, 0, ticks), ALL);
            Check.due("a road of " + ticks + ", just enough: choice", f.choice(0, 0, ticks), 0);
        }
        Desk g = oneRoad(100, 8, 0, 0);
        Check.due("far below: chance(0, 0, 0)", g.chance(0, 0, 0), 0);
    }

    private static void ticksLeftOfFailing() {
        Check.sentence("Terms: 8 less ODDS by that behind its failing (0 with TICKS below 0 left)");
        for (int failTicks : new int[] {1, 20, 100}) {
            Desk f = new Desk();
            f.goal(1, 0);
            f.road(0, 1, 0, 0, 100, 2, 2, failTicks);
            f.road(2, 1, 0, 0, 7, 8, 0, 0);
            int just = failTicks + 7;
            boolean alsoGood = just >= 100;
            Check.due("fails in " + failTicks + ", in time", f.chance(0, 0, just), ALL / 8 * (alsoGood ? 8 : 6));
            Check.due("fails in " + failTicks + ", one too few", f.chance(0, 0, just - 1), ALL / 8 * (alsoGood ? 2 : 0));
        }
        Desk g = oneRoad(5, 3, 1, 9);
        Check.due("neither in time: chance(0, 0, 4)", g.chance(0, 0, 4), 0);
        Check.due("only if it succeeds: chance(0, 0, 5)", g.chance(0, 0, 5), ALL / 8 * 3);
        Check.due("only if it succeeds: chance(0, 0, 8)", g.chance(0, 0, 8), ALL / 8 * 3);
        Check.due("both: chance(0, 0, 9)", g.chance(0, 0, 9), ALL);
    }

    private static void ticksLeftOfAnew() {
        Check.sentence("Terms: ANEW's (with its price less left)");
        for (int price : new int[] {1, 60, 100}) {
            Desk f = oneRoad(10, 8, 0, 0);
            f.anew(price);
            Check.due("price " + price + ", one too few", f.chance(3, 5, price + 9), 0);
            Check.due("price " + price + ", one too few: choice", f.choice(3, 5, price + 9), NONE);
            Check.due("price " + price + ", just enough", f.chance(3, 5, price + 10), ALL);
            Check.due("price " + price + ", just enough: choice", f.choice(3, 5, price + 10), ANEW);
            Check.due("price " + price + ", not even ANEW", f.chance(3, 5, price - 1), 0);
        }
    }

    private static void threeHundredLeft() {
        Check.sentence("Promise 25: TICKS (0 .. 300)");
        Desk f = new Desk();
        f.goal(3, 0);
        for (int room = 0; room < 3; room++) {
            f.road(room, room + 1, 0, 0, 100, 8, 0, 0);
        }
        Check.due("three of 100: chance(0, 0, 300)", f.chance(0, 0, 300), ALL);
        Check.due("three of 100: chance(0, 0, 299)", f.chance(0, 0, 299), 0);
        Check.due("three of 100: choice(0, 0, 300)", f.choice(0, 0, 300), 0);
        Check.due("three of 100: choice(0, 0, 299)", f.choice(0, 0, 299), NONE);
        Desk g = new Desk();
        g.goal(0, 1);
        g.road(0, 0, 0, 1, 1, 1, 0, 1);
        long want = 0;
        for (int left = 0; left <= 300; left++) {
            Check.due("a try each tick: chance(0, 0, " + left + ")", g.chance(0, 0, left), want);
            want = (ALL + 7 * want) / 8;
        }
    }

    private static void needsAtTheirEdges() {
        Check.sentence("Terms: of each ROAD from there that isn't barred and whose needs are had");
        for (int needs = 0; needs <= 15; needs++) {
            Desk f = new Desk();
            f.goal(1, 0);
            f.road(0, 1, needs, 0, 1, 8, 0, 0);
            for (int things = 0; things <= 15; things++) {
                boolean had = (needs & ~things) == 0;
                Check.due("needs " + needs + ": chance(0, " + things + ", 1)", f.chance(0, things, 1), had ? ALL : 0);
                Check.due("needs " + needs + ": choice(0, " + things + ", 1)", f.choice(0, things, 1), had ? 0 : NONE);
            }
            Check.due("needs " + needs + ": sure()", f.sure(), needs == 0 ? 1 : NONE);
            Check.due("from another room: chance(2, 15, 300)", f.chance(2, 15, 300), 0);
        }
    }

    private static void failsIntoTheGoal() {
        Check.sentence("Terms: ODDS by the CHANCE behind it and 8 less ODDS by that behind its failing, by 8");
        for (int odds = 1; odds <= 7; odds++) {
            Desk f = new Desk();
            f.goal(1, 0);
            f.road(0, 2, 0, 0, 3, odds, 1, 3);
            Check.due("odds " + odds + ", the failing meets the goal", f.chance(0, 0, 3), ALL / 8 * (8 - odds));
            Check.due("odds " + odds + ", one too few", f.chance(0, 0, 2), 0);
        }
        Desk g = new Desk();
        g.goal(1, 0);
        g.road(0, 2, 0, 0, 3, 8, 1, 3);
        Check.due("a sure one doesn't fail: chance(0, 0, 300)", g.chance(0, 0, 300), 0);
    }

    private static void nothingGivenIfItFails() {
        Check.sentence("Terms: if it fails, a ROOM and TICKS 1 .. 100 (nothing given)");
        Desk f = new Desk();
        f.goal(1, 2);
        f.road(0, 1, 0, 2, 4, 5, 1, 4);
        Check.due("there without the thing: chance(0, 0, 4)", f.chance(0, 0, 4), ALL / 8 * 5);
        Check.due("there with what was had: chance(0, 2, 4)", f.chance(0, 2, 4), ALL);
        f.goal(1, 3);
        Check.due("had and given: chance(0, 1, 4)", f.chance(0, 1, 4), ALL / 8 * 5);
    }

    private static void chanceIsCut() {
        Check.sentence("Terms: by 8, cut");
        Desk f = new Desk();
        f.goal(3, 0);
        f.road(0, 1, 0, 0, 1, 3, 9, 100);
        f.road(1, 2, 0, 0, 1, 3, 9, 100);
        f.road(2, 3, 0, 0, 1, 3, 2, 1);
        long third = 0;
        for (int left = 2; left <= 60; left++) {
            third = (3 * ALL + 5 * third) / 8;
            long second = 3 * third / 8;
            Check.due("cut at each road: chance(1, 0, " + left + ")", f.chance(1, 0, left), second);
            Check.due("cut at each road: chance(0, 0, " + (left + 1) + ")", f.chance(0, 0, left + 1), 3 * second / 8);
        }
        Desk g = oneRoad(1, 7, 0, 1);
        Check.due("nearly all of it is not all of it: chance(0, 0, 300)", g.chance(0, 0, 300), ALL - 1);
    }

    /** Eleven tricks in a row, each of 1 of 8; a failing leaves no time. */
    private static Desk elevenTricks() {
        Desk f = new Desk();
        f.goal(9, 3);
        for (int room = 0; room < 9; room++) {
            f.road(room, room + 1, 0, 0, 1, 1, 0, 100);
        }
        f.road(9, 9, 0, 1, 1, 1, 0, 100);
        f.road(9, 9, 1, 2, 1, 1, 0, 100);
        return f;
    }

    private static void chanceCutToNought() {
        Check.sentence("Terms: by 8, cut; CHOICE: NONE if CHANCE is 0");
        Desk f = elevenTricks();
        Check.due("one trick: chance(9, 1, 1)", f.chance(9, 1, 1), ALL / 8);
        Check.due("ten tricks, one part of 2 to the 30: chance(1, 0, 10)", f.chance(1, 0, 10), 1);
        Check.due("ten tricks: choice(1, 0, 10)", f.choice(1, 0, 10), 1);
        Check.due("eleven tricks, cut: chance(0, 0, 11)", f.chance(0, 0, 11), 0);
        Check.due("eleven tricks, cut: choice(0, 0, 11)", f.choice(0, 0, 11), NONE);
    }

    private static void chanceWithoutAny() {
        Check.sentence("Terms: 0 without any");
        Desk f = new Desk();
        f.goal(1, 0);
        f.road(2, 1, 0, 0, 1, 8, 0, 0);
        Check.due("none from there: chance(0, 0, 300)", f.chance(0, 0, 300), 0);
        f.road(0, 1, 1, 0, 1, 8, 0, 0);
        Check.due("its needs aren't had: chance(0, 14, 300)", f.chance(0, 14, 300), 0);
        f.road(0, 1, 0, 0, 1, 8, 0, 0);
        f.bar(2, true);
        Check.due("barred: chance(0, 0, 300)", f.chance(0, 0, 300), 0);
        Check.due("barred: choice(0, 0, 300)", f.choice(0, 0, 300), NONE);
        f.bar(2, false);
        Check.due("one there is: chance(0, 0, 300)", f.chance(0, 0, 300), ALL);
    }

    /** Every room with every thing is asked for, then all of them again after a change. */
    private static void allRoomsWithAllThings() {
        Check.sentence("Promise 25: ROOM (0 .. 9), THINGS (0 .. 15): each of them; what is told of roads, GOAL and ANEW counts at once");
        Desk f = new Desk();
        f.goal(9, 15);
        f.anew(5);
        f.road(0, 9, 0, 15, 3, 8, 0, 0);
        dueAllRooms(f, 8);
        f.bar(0, true);
        f.road(0, 9, 0, 15, 4, 8, 0, 0);
        dueAllRooms(f, 9);
        f.anew(6);
        dueAllRooms(f, 10);
    }

    private static void dueAllRooms(Desk f, int byAnew) {
        for (int room = 9; room >= 0; room--) {
            for (int things = 15; things >= 0; things--) {
                boolean met = room == 9 && things == 15;
                long want = met || room == 0 ? ALL : 0;
                Check.due("chance(" + room + ", " + things + ", " + (byAnew - 1) + ")", f.chance(room, things, byAnew - 1), want);
            }
        }
        Check.due("chance(8, 15, " + byAnew + ")", f.chance(8, 15, byAnew), ALL);
        Check.due("choice(8, 15, " + byAnew + ")", f.choice(8, 15, byAnew), ANEW);
    }

    private static void choiceOfTheLeastNumber() {
        Check.sentence("Terms: CHOICE: the ROAD with that CHANCE, of several the one with the least number");
        Desk f = new Desk();
        f.goal(1, 0);
        int[] odds = {3, 5, 5, 5, 4};
        for (int i = 0; i < odds.length; i++) {
            f.road(0, 1, 0, 0, 3, odds[i], 2, 1);
        }
        for (int i = 1; i <= 3; i++) {
            Check.due("the first of those alike: choice(0, 0, 3)", f.choice(0, 0, 3), i);
            f.bar(i, true);
        }
        Check.due("then the next best: choice(0, 0, 3)", f.choice(0, 0, 3), 4);
        f.bar(4, true);
        Check.due("then the last: choice(0, 0, 3)", f.choice(0, 0, 3), 0);
        f.bar(1, false);
        Check.due("the best again: choice(0, 0, 3)", f.choice(0, 0, 3), 1);
    }

    private static void choiceOfAnewOnlyIfGreater() {
        Check.sentence("Terms: ANEW (-2) only if it is greater than all of them");
        Desk f = new Desk();
        f.goal(1, 0);
        f.road(0, 1, 0, 0, 10, 8, 0, 0);
        f.road(2, 1, 0, 0, 20, 8, 0, 0);
        f.road(2, 1, 0, 0, 5, 7, 3, 1);
        f.anew(10);
        Check.due("the trick alone: choice(2, 0, 19)", f.choice(2, 0, 19), 2);
        Check.due("as great as a road: choice(2, 0, 20)", f.choice(2, 0, 20), 1);
        f.anew(9);
        Check.due("greater than all of them: choice(2, 0, 19)", f.choice(2, 0, 19), ANEW);
        Check.due("greater than all of them: chance(2, 0, 19)", f.chance(2, 0, 19), ALL);
        Check.due("less than one of them: choice(2, 0, 18)", f.choice(2, 0, 18), 2);
        Check.due("as great as a road again: choice(2, 0, 20)", f.choice(2, 0, 20), 1);
        f.bar(0, true);
        f.road(0, 1, 0, 0, 10, 7, 3, 1);
        Check.due("as great as the trick: choice(2, 0, 19)", f.choice(2, 0, 19), 2);
        f.bar(2, true);
        Check.due("the only one: choice(2, 0, 19)", f.choice(2, 0, 19), ANEW);
        Check.due("the only one, too late: choice(2, 0, 18)", f.choice(2, 0, 18), NONE);
    }

    private static void noChoice() {
        Check.sentence("Terms: NONE if CHANCE is 0, or the GOAL is met");
        Desk f = oneRoad(10, 8, 0, 0);
        f.road(1, 1, 0, 0, 1, 8, 0, 0);
        Check.due("chance 0: choice(0, 0, 9)", f.choice(0, 0, 9), NONE);
        Check.due("no longer 0: choice(0, 0, 10)", f.choice(0, 0, 10), 0);
        Check.due("met, though there is a road: choice(1, 0, 300)", f.choice(1, 0, 300), NONE);
        f.anew(1);
        Check.due("met, though there is ANEW: choice(1, 15, 300)", f.choice(1, 15, 300), NONE);
        f.goal(1, 1);
        Check.due("no longer met, chance 0: choice(1, 0, 300)", f.choice(1, 0, 300), NONE);
        Check.due("met: choice(1, 1, 300)", f.choice(1, 1, 300), NONE);
    }

    private static void askingChangesNothing() {
        Check.sentence("Promise 24, 25, 26: BEST, CHANCE, CHOICE");
        Twins.dueUnchanged("sure()", Twins::livedIn, d -> d.sure());
        int[][] asked = {{0, 0, 0}, {0, 0, 300}, {9, 15, 300}, {3, 4, 0}, {2, 1, 17}};
        for (int[] c : asked) {
            String what = "(" + c[0] + ", " + c[1] + ", " + c[2] + ")";
            Twins.dueUnchanged("chance" + what, Twins::livedIn, d -> d.chance(c[0], c[1], c[2]));
            Twins.dueUnchanged("choice" + what, Twins::livedIn, d -> d.choice(c[0], c[1], c[2]));
        }
    }
}
