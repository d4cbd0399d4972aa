import java.util.ArrayList;
import java.util.List;
import java.util.function.Consumer;

/**
 * Two desks used alike, but for calls of which the document says that they change nothing: whatever
 * is asked afterwards, both answer the same. As much of the asking changes the desk, each set of
 * questions has twins of its own.
 */
final class Twins {
    interface Questions {
        void ask(Desk desk, List<Long> answers);
    }

    private static final Questions[] ALL = {
        Twins::askWhatIsThere, Twins::askChances, Twins::askChoices, Twins::askKept, Twins::askFromBeginning,
        Twins::askGoingOn, Twins::askForMore, Twins::askCells};

    // After 500 presses a desk has 12 calls left.
    private static final Questions[] SHORT = {
        Twins::askStateAlone, Twins::askPressesAlone, Twins::askKeptAlone, Twins::askCountsAlone};

    private Twins() {
    }

    static void dueUnchanged(String call, Consumer<Desk> before, Consumer<Desk> noChange) {
        compare(call, before, noChange, ALL);
    }

    static void dueUnchangedLate(String call, Consumer<Desk> before, Consumer<Desk> noChange) {
        compare(call, before, noChange, SHORT);
    }

    private static void compare(String call, Consumer<Desk> before, Consumer<Desk> noChange, Questions[] sets) {
        for (int set = 0; set < sets.length; set++) {
            Desk plain = new Desk();
            before.accept(plain);
            List<Long> want = new ArrayList<>();
            sets[set].ask(plain, want);
            Desk other = new Desk();
            before.accept(other);
            noChange.accept(other);
            List<Long> got = new ArrayList<>();
            sets[set].ask(other, got);
            Check.due(call + " changed nothing, questions " + set + ": " + got + " for " + want, got.equals(want), true);
        }
    }

    /** A desk on which every part of what it holds would be missed, if a call changed it. */
    static void livedIn(Desk d) {
        d.board(4, 3);
        int[][] cells = {{2, 0, 2}, {3, 0, 5}, {1, 1, 1}, {3, 1, 8}, {0, 2, 3}, {1, 2, 6}, {2, 2, 4}, {3, 2, 7}};
        for (int[] c : cells) {
            d.cell(c[0], c[1], c[2]);
        }
        d.foe(2, 1);
        d.foe(2, 2);
        d.foe(3, 2);
        d.start(0, 1);
        d.least();
        int[] presses = {1, 2, 2};
        for (int press : presses) {
            d.press(press);
            d.claim(press);
        }
        d.save(0);
        d.press(2);
        d.save(2);
        d.back(0);
        d.press(4);
        int[][] splits = {{0, 1, 0, 0}, {0, 0, 1, 1}, {2, 0, 3, 4}, {3, 1, 5, 5}};
        for (int[] s : splits) {
            d.split(s[0], s[1], s[2], s[3]);
        }
        liveInRooms(d);
    }

    private static void liveInRooms(Desk d) {
        d.road(0, 1, 0, 1, 5, 8, 0, 0);
        d.road(1, 2, 1, 2, 7, 8, 0, 0);
        d.road(2, 3, 3, 4, 9, 8, 0, 0);
        d.road(0, 3, 0, 4, 6, 3, 1, 4);
        d.road(1, 3, 0, 4, 2, 2, 0, 3);
        d.road(2, 3, 0, 4, 1, 8, 0, 0);
        d.bar(5, true);
        d.goal(3, 4);
        d.anew(8);
    }

    private static long bit(boolean answer) {
        return answer ? 1 : 0;
    }

    private static void askStates(Desk d, List<Long> answers) {
        for (int what = 0; what <= 6; what++) {
            answers.add((long) d.state(what));
        }
    }

    private static void askCounts(Desk d, List<Long> answers) {
        for (int what = 0; what <= 5; what++) {
            answers.add((long) d.count(what));
        }
    }

    private static void askRow(Desk d, List<Long> answers) {
        for (int k = 0; k < 10; k++) {
            answers.add((long) d.best(k));
        }
    }

    private static void askWhatIsThere(Desk d, List<Long> answers) {
        askCounts(d, answers);
        askStates(d, answers);
        askRow(d, answers);
        answers.add((long) d.differs());
        answers.add((long) d.prove(0));
        answers.add((long) d.prove(3));
        answers.add((long) d.could());
        answers.add((long) d.sure());
    }

    private static final int[] THINGS = {0, 1, 3, 15};
    private static final int[] LEFTS = {6, 30};

    private static void askChances(Desk d, List<Long> answers) {
        for (int room = 0; room <= 9; room++) {
            for (int things : THINGS) {
                for (int left : LEFTS) {
                    answers.add(d.chance(room, things, left));
                }
            }
        }
    }

    private static void askChoices(Desk d, List<Long> answers) {
        for (int room = 0; room <= 9; room++) {
            for (int things : THINGS) {
                for (int left : LEFTS) {
                    answers.add((long) d.choice(room, things, left));
                }
            }
        }
    }

    private static void askKept(Desk d, List<Long> answers) {
        for (int place = 0; place <= 3; place++) {
            answers.add(bit(d.back(place)));
            askStates(d, answers);
            answers.add((long) d.differs());
        }
    }

    private static void askFromBeginning(Desk d, List<Long> answers) {
        d.begin();
        askStates(d, answers);
        for (int tick = 0; tick < 14; tick++) {
            answers.add((long) d.press(0));
            answers.add((long) d.state(5));
            answers.add((long) d.state(6));
        }
    }

    private static void askGoingOn(Desk d, List<Long> answers) {
        answers.add((long) d.least());
        askRow(d, answers);
        for (int press = 4; press >= 0; press--) {
            answers.add((long) d.press(press));
            askStates(d, answers);
            answers.add((long) d.differs());
        }
    }

    private static void askForMore(Desk d, List<Long> answers) {
        answers.add((long) d.claim(4));
        answers.add((long) d.differs());
        answers.add((long) d.split(0, 0, 7, 8));
        answers.add((long) d.could());
        answers.add((long) d.road(4, 3, 0, 15, 1, 8, 0, 0));
        answers.add(d.chance(4, 0, 1));
        answers.add(bit(d.bar(0, true)));
        answers.add((long) d.sure());
        answers.add(bit(d.save(1)));
        answers.add(bit(d.foe(0, 0)));
        askCounts(d, answers);
    }

    /** What each of the first twelve cells does to a runner that waits on it, and to one that comes. */
    private static void askCells(Desk d, List<Long> answers) {
        int w = d.count(0);
        int cells = Math.min(w * d.count(1), 12);
        for (int i = 0; i < cells; i++) {
            int x = i % w;
            int y = i / w;
            d.start(x, y);
            answers.add((long) d.press(0));
            answers.add((long) d.state(2));
            d.start(x == 0 ? 1 : x - 1, y);
            answers.add((long) d.press(x == 0 ? 4 : 2));
            answers.add((long) d.state(0));
        }
    }

    private static void askStateAlone(Desk d, List<Long> answers) {
        askStates(d, answers);
    }

    private static void askPressesAlone(Desk d, List<Long> answers) {
        answers.add((long) d.differs());
        answers.add((long) d.claim(0));
        answers.add((long) d.differs());
    }

    private static void askKeptAlone(Desk d, List<Long> answers) {
        for (int place = 0; place <= 3; place++) {
            answers.add(bit(d.back(place)));
            answers.add((long) d.state(3));
        }
    }

    private static void askCountsAlone(Desk d, List<Long> answers) {
        askCounts(d, answers);
    }
}
