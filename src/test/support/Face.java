/** The calls of the document, for what answers them beside the program itself. */
interface Face {
    boolean board(int w, int h);

    boolean cell(int x, int y, int kind);

    boolean foe(int x, int y);

    boolean start(int x, int y);

    int press(int press);

    int state(int what);

    boolean save(int place);

    boolean back(int place);

    void begin();

    int least();

    int best(int k);

    int claim(int press);

    void unclaim();

    int prove(int ticks);

    int differs();

    int split(int x, int y, int a, int b);

    void unsplit();

    int could();

    int road(int from, int to, int needs, int gives, int ticks, int odds, int failRoom, int failTicks);

    boolean bar(int road, boolean on);

    boolean goal(int room, int things);

    boolean anew(int price);

    int sure();

    long chance(int room, int things, int left);

    int choice(int room, int things, int left);

    int count(int what);
}
