/** A FastestRun that counts its calls, as the document says nothing of those behind the 512th. */
final class Desk implements Face {
    private static final int MOST_CALLS = 512;

    private final FastestRun run = new FastestRun();
    private int callsLeft = MOST_CALLS;

    static Desk onBoard(int w, int h) {
        Desk desk = new Desk();
        desk.board(w, h);
        return desk;
    }

    /** For what holds of later calls too: that they end, and throw nothing. */
    static Desk withoutEnd() {
        Desk desk = new Desk();
        desk.callsLeft = Integer.MAX_VALUE;
        return desk;
    }

    int callsLeft() {
        return callsLeft;
    }

    private FastestRun next() {
        if (callsLeft == 0) {
            throw new IllegalStateException("a test makes more than 512 calls of one object");
        }
        callsLeft--;
        return run;
    }

    @Override
    public boolean board(int w, int h) {
        return next().board(w, h);
    }

    @Override
    public boolean cell(int x, int y, int kind) {
        return next().cell(x, y, kind);
    }

    @Override
    public boolean foe(int x, int y) {
        return next().foe(x, y);
    }

    @Override
    public boolean start(int x, int y) {
        return next().start(x, y);
    }

    @Override
    public int press(int press) {
        return next().press(press);
    }

    @Override
    public int state(int what) {
        return next().state(what);
    }

    @Override
    public boolean save(int place) {
        return next().save(place);
    }

    @Override
    public boolean back(int place) {
        return next().back(place);
    }

    @Override
    public void begin() {
        next().begin();
    }

    @Override
    public int least() {
        return next().least();
    }

    @Override
    public int best(int k) {
        return next().best(k);
    }

    @Override
    public int claim(int press) {
        return next().claim(press);
    }

    @Override
    public void unclaim() {
        next().unclaim();
    }

    @Override
    public int prove(int ticks) {
        return next().prove(ticks);
    }

    @Override
    public int differs() {
        return next().differs();
    }

    @Override
    public int split(int x, int y, int a, int b) {
        return next().split(x, y, a, b);
    }

    @Override
    public void unsplit() {
        next().unsplit();
    }

    @Override
    public int could() {
        return next().could();
    }

    @Override
    public int road(int from, int to, int needs, int gives, int ticks, int odds, int failRoom, int failTicks) {
        return next().road(from, to, needs, gives, ticks, odds, failRoom, failTicks);
    }

    @Override
    public boolean bar(int road, boolean on) {
        return next().bar(road, on);
    }

    @Override
    public boolean goal(int room, int things) {
        return next().goal(room, things);
    }

    @Override
    public boolean anew(int price) {
        return next().anew(price);
    }

    @Override
    public int sure() {
        return next().sure();
    }

    @Override
    public long chance(int room, int things, int left) {
        return next().chance(room, things, left);
    }

    @Override
    public int choice(int room, int things, int left) {
        return next().choice(room, things, left);
    }

    @Override
    public int count(int what) {
        return next().count(what);
    }
}
