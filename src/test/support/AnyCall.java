/** Every call of the face by a number, for tests that draw their calls. */
final class AnyCall {
    static final int CALLS = 26;

    private AnyCall() {
    }

    private static long bit(boolean answer) {
        return answer ? 1 : 0;
    }

    static long answer(Face f, int call, int[] a) {
        switch (call) {
            case 0: return bit(f.board(a[0], a[1]));
            case 1: return bit(f.cell(a[0], a[1], a[2]));
            case 2: return bit(f.foe(a[0], a[1]));
            case 3: return bit(f.start(a[0], a[1]));
            case 4: return f.press(a[0]);
            case 5: return f.state(a[0]);
            case 6: return bit(f.save(a[0]));
            case 7: return bit(f.back(a[0]));
            case 8: f.begin(); return 0;
            case 9: return f.least();
            case 10: return f.best(a[0]);
            case 11: return f.claim(a[0]);
            case 12: f.unclaim(); return 0;
            case 13: return f.prove(a[0]);
            case 14: return f.differs();
            case 15: return f.split(a[0], a[1], a[2], a[3]);
            case 16: f.unsplit(); return 0;
            case 17: return f.could();
            case 18: return f.road(a[0], a[1], a[2], a[3], a[4], a[5], a[6], a[7]);
            case 19: return bit(f.bar(a[0], a[1] % 2 == 0));
            case 20: return bit(f.goal(a[0], a[1]));
            case 21: return bit(f.anew(a[0]));
            case 22: return f.sure();
            case 23: return f.chance(a[0], a[1], a[2]);
            case 24: return f.choice(a[0], a[1], a[2]);
            default: return f.count(a[0]);
        }
    }
}
