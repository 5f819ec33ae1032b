/**
 * A WebFinder whose calls are counted: nothing is promised behind the 512th call of an object, so no test may lean on
 * what comes there.
 */
final class Finder {
    static final int NONE = WebFinder.NONE;
    static final int MOST_CALLS = 512;

    private final WebFinder finder = new WebFinder();
    private final int most;
    private int calls;

    Finder() {
        this(MOST_CALLS);
    }

    /** For runs that are compared with the model, also where nothing is promised any more. */
    Finder(int mostCalls) {
        most = mostCalls;
    }

    int callsLeft() {
        return most - calls;
    }

    private WebFinder counted() {
        calls++;
        if (calls > most) {
            throw new AssertionError("a test calls one object more than " + most + " times");
        }
        return finder;
    }

    void feed(int a, int b, int c, int d, int e) {
        counted().feed(a, b, c, d, e);
    }

    int end(int n) {
        return counted().end(n);
    }

    int read() {
        return counted().read();
    }

    int page(int status) {
        return counted().page(status);
    }

    boolean drop() {
        return counted().drop();
    }

    int rules() {
        return counted().rules();
    }

    int allowed() {
        return counted().allowed();
    }

    int look(int what) {
        return counted().look(what);
    }

    boolean set(int setting, int value) {
        return counted().set(setting, value);
    }

    int seed() {
        return counted().seed();
    }

    void noSeeds() {
        counted().noSeeds();
    }

    int start() {
        return counted().start();
    }

    int step() {
        return counted().step();
    }

    int run(int most) {
        return counted().run(most);
    }

    boolean crash() {
        return counted().crash();
    }

    int clock() {
        return counted().clock();
    }

    int count(int what) {
        return counted().count(what);
    }

    int known(int i, int what) {
        return counted().known(i, what);
    }

    int asking(int k, int what) {
        return counted().asking(k, what);
    }

    int address(int i) {
        return counted().address(i);
    }

    int find(int rounds) {
        return counted().find(rounds);
    }

    int document(int d, int what) {
        return counted().document(d, what);
    }

    int where(int d) {
        return counted().where(d);
    }

    int ask(int mode) {
        return counted().ask(mode);
    }

    int hit(int i) {
        return counted().hit(i);
    }

    long score(int i) {
        return counted().score(i);
    }

    int made() {
        return counted().made();
    }

    int out(int i) {
        return counted().out(i);
    }
}
