/** Promises 10 to 21: set, seed, noSeeds, start, step, run, crash, clock, count, known, asking, address. */
public final class CrawlTest {
    private static final Due DUE = new Due();

    public static void main(String[] args) {
        settings();
        seeds();
        starts();
        order();
        depths();
        lessDepthLater();
        chains();
        leadsOn();
        rulesOnTheWay();
        rests();
        savesAndCrashes();
        crashForgets();
        textOfThen();
        knowsAtMost();
        askingsAtMost();
        readsOfWhatIsNone();
        DUE.end("CrawlTest");
    }

    private static String links(String... to) {
        return "<a href=" + String.join("><a href=", to) + ">";
    }

    private static void isKnown(Finder x, int i, String address, int state, int depth, int chain) {
        DUE.is("address " + i, Due.address(x, i), address);
        DUE.is("state of " + address, x.known(i, 0), state);
        DUE.is("depth of " + address, x.known(i, 1), depth);
        DUE.is("chain of " + address, x.known(i, 2), chain);
    }

    private static void asks(Finder x, int k, int clock, String address) {
        DUE.is("clock of asking " + k, x.asking(k, 0), clock);
        DUE.is("length of asking " + k, x.asking(k, 1), address.length());
        DUE.is("address of asking " + k, Due.product(x), address);
    }

    private static void settings() {
        Finder x = new Finder();
        int[][] ranges = {{0, 20}, {0, 8}, {0, 1000}, {1, 50}};
        for (int i = 0; i < 4; i++) {
            DUE.is("least of " + i, x.set(i, ranges[i][0]), true);
            DUE.is("most of " + i, x.set(i, ranges[i][1]), true);
            DUE.is("less than least of " + i, x.set(i, ranges[i][0] - 1), false);
            DUE.is("more than most of " + i, x.set(i, ranges[i][1] + 1), false);
        }
        DUE.is("setting -1", x.set(-1, 1), false);
        DUE.is("setting 4", x.set(4, 1), false);
        x = new Finder();
        Due.page(x, 200, "http://a/", links("b"));
        Due.page(x, 200, "http://a/b", links("c"));
        Due.seed(x, "http://a/");
        x.set(0, 0);
        x.set(2, 10);
        x.set(2, 1001);
        x.start();
        x.set(0, 3);
        DUE.is("run by the settings of its start", x.run(9), 1);
        x.start();
        x.set(2, 0);
        DUE.is("run by those of the next start", x.run(9), 3);
        asks(x, 1, 10, "http://a/b");
    }

    private static void seeds() {
        Finder x = new Finder();
        DUE.is("no bytes", x.seed(), -1);
        DUE.is("nothing", Due.seed(x, "a"), -1);
        DUE.is("two lines", Due.seed(x, "http://a/\nb"), -1);
        DUE.is("the tape", x.end(0), 0);
        DUE.is("first", Due.seed(x, "http://a/"), 1);
        DUE.is("the same", Due.seed(x, "http://A"), 2);
        for (int i = 2; i < 20; i++) {
            DUE.is("seed " + i, Due.seed(x, "http://a/" + i), i + 1);
        }
        DUE.is("one more", Due.seed(x, "http://b/"), -1);
        DUE.is("the tape", x.end(0), 0);
        DUE.is("count", x.count(1), 20);
        DUE.is("start: each once", x.start(), 19);
        isKnown(x, 1, "http://a/2", 1, 0, 0);
        x.noSeeds();
        DUE.is("count", x.count(1), 0);
        DUE.is("what is known stays", x.count(2), 19);
        DUE.is("seed", Due.seed(x, "http://b/"), 1);
        DUE.is("start", x.start(), 1);
    }

    private static void starts() {
        Finder x = new Finder();
        DUE.is("start without seeds", x.start(), 0);
        DUE.is("clock", x.clock(), 0);
        DUE.is("step", x.step(), -1);
        DUE.is("run", x.run(5), 0);
        DUE.is("crash", x.crash(), true);
        DUE.is("count", x.count(3), 0);
        Due.page(x, 200, "http://a/", links("b"));
        Due.seed(x, "http://a/");
        DUE.is("start", x.start(), 1);
        DUE.is("run", x.run(1), 1);
        DUE.is("askings", x.count(4), 1);
        DUE.is("clock", x.clock(), 1);
        DUE.is("start again", x.start(), 1);
        DUE.is("clock", x.clock(), 0);
        DUE.is("askings are forgotten", x.count(4), 0);
        DUE.is("asking", x.asking(0, 0), -1);
        DUE.is("step", x.step(), 2);
        asks(x, 0, 0, "http://a/");
    }

    private static void order() {
        Finder x = new Finder();
        Due.page(x, 200, "http://a/1", links("3", "//b/", "2"));
        Due.page(x, 301, "http://a/2", "4");
        Due.page(x, 200, "http://a/3", links("5", "1"));
        Due.page(x, 200, "http://a/4", "");
        Due.page(x, 200, "http://a/5", "");
        Due.seed(x, "http://a/2");
        Due.seed(x, "http://a/1");
        x.set(2, 0);
        DUE.is("start", x.start(), 2);
        DUE.is("leads on", x.step(), 3);
        DUE.is("known", x.count(2), 3);
        DUE.is("waiting", x.count(3), 2);
        DUE.is("the less chain", x.step(), 2);
        DUE.is("of the same depth the greater chain", x.step(), 2);
        DUE.is("depth 1", x.step(), 2);
        DUE.is("no page", x.step(), 5);
        DUE.is("depth 2", x.step(), 2);
        DUE.is("nothing waits", x.step(), -1);
        String[] asked = {"http://a/2", "http://a/1", "http://a/4", "http://a/3", "http://b/", "http://a/5"};
        for (int k = 0; k < asked.length; k++) {
            asks(x, k, k, asked[k]);
        }
        DUE.is("askings", x.count(4), 6);
        DUE.is("clock", x.clock(), 6);
        isKnown(x, 0, "http://a/2", 3, 0, 0);
        isKnown(x, 2, "http://a/4", 2, 0, 1);
        isKnown(x, 4, "http://b/", 5, 1, 0);
        isKnown(x, 5, "http://a/5", 2, 2, 0);
    }

    private static void depths() {
        Finder x = new Finder();
        for (int i = 0; i < 6; i++) {
            Due.page(x, 200, "http://a/" + i, links("" + (i + 1)));
        }
        Due.seed(x, "http://a/0");
        x.start();
        DUE.is("depth 3", x.run(100), 4);
        DUE.is("known", x.count(2), 4);
        x.set(0, 20);
        x.start();
        DUE.is("run(0)", x.run(0), 0);
        DUE.is("run(2)", x.run(2), 2);
        DUE.is("run(-1)", x.run(-1), -1);
        DUE.is("run(max)", x.run(Integer.MAX_VALUE), 5);
        DUE.is("run(1)", x.run(1), 0);
    }

    private static void lessDepthLater() {
        Finder x = new Finder();
        Due.page(x, 200, "http://a/", links("p", "r", "q"));
        Due.page(x, 200, "http://a/p", links("t"));
        Due.page(x, 302, "http://a/r", "t");
        Due.page(x, 200, "http://a/q", "");
        Due.seed(x, "http://a/");
        x.start();
        x.run(2);
        isKnown(x, 4, "http://a/t", 1, 2, 0);
        DUE.is("r", x.step(), 3);
        isKnown(x, 4, "http://a/t", 1, 1, 1);
        DUE.is("q", x.step(), 2);
        isKnown(x, 4, "http://a/t", 1, 1, 1);
        DUE.is("leads on to", x.known(2, 3), 4);
        Due.page(x, 301, "http://a/1", "3");
        Due.page(x, 301, "http://a/3", "4");
        Due.page(x, 301, "http://a/2", "4");
        x.noSeeds();
        Due.seed(x, "http://a/1");
        Due.seed(x, "http://a/2");
        x.start();
        x.run(2);
        isKnown(x, 3, "http://a/4", 1, 0, 1);
        x.run(1);
        isKnown(x, 3, "http://a/4", 1, 0, 1);
    }

    private static void chains() {
        Finder x = new Finder();
        for (int i = 0; i < 6; i++) {
            Due.page(x, 301, "http://a/" + i, "" + (i + 1));
        }
        Due.seed(x, "http://a/0");
        x.start();
        x.run(100);
        DUE.is("chain of 3", Due.states(x), "3 3 3 5 ");
        isKnown(x, 3, "http://a/3", 5, 0, 3);
        DUE.is("leads on to", x.known(2, 3), 3);
        DUE.is("leads on to none", x.known(3, 3), -1);
        x.set(1, 0);
        x.start();
        x.run(100);
        DUE.is("chain of 0", Due.states(x), "5 ");
        x.set(1, 8);
        x.start();
        x.run(100);
        DUE.is("chain of 8", Due.states(x), "3 3 3 3 3 3 5 ");
    }

    private static void leadsOn() {
        Finder x = new Finder();
        Due.page(x, 300, "http://a/0", " //b/x#y \r\nmore\n");
        Due.page(x, 399, "http://a/1", "");
        Due.page(x, 301, "http://a/2", "x y");
        Due.page(x, 299, "http://a/3", "0");
        Due.page(x, 400, "http://a/4", "0");
        Due.page(x, 301, "http://a/5", "\n0");
        Due.page(x, 100, "http://a/6", links("0"));
        Due.page(x, 201, "http://a/7", links("0"));
        for (int i = 0; i < 9; i++) {
            Due.seed(x, "http://a/" + i);
        }
        x.start();
        x.run(100);
        DUE.is("states", Due.states(x), "3 3 5 5 5 3 5 5 5 5 ");
        DUE.is("first line", x.known(0, 3), 9);
        DUE.is("an empty line leads on to itself", x.known(1, 3), 1);
        DUE.is("an empty line leads on to itself", x.known(5, 3), 5);
        DUE.is("failed leads on to none", x.known(2, 3), -1);
        isKnown(x, 9, "http://b/x", 5, 0, 1);
    }

    private static void rulesOnTheWay() {
        Finder x = new Finder();
        Due.page(x, 200, "http://a/", links("x", "y"));
        Due.rules(x, "http://a/", "user-agent: finder\ndisallow: /x");
        Due.seed(x, "http://a/");
        Due.seed(x, "http://a/x/z");
        x.start();
        DUE.is("got", x.step(), 2);
        DUE.is("not allowed", x.step(), 4);
        DUE.is("clock", x.clock(), 1);
        DUE.is("askings", x.count(4), 1);
        DUE.is("not allowed", x.step(), 4);
        Due.rules(x, "http://a/", "user-agent: finder\ndisallow: /y");
        DUE.is("the rules of now", x.step(), 4);
        DUE.is("states", Due.states(x), "2 4 4 4 ");
    }

    private static void rests() {
        Finder x = new Finder();
        Due.page(x, 200, "http://a/", links("x", "//a:8/", "//b/", "y", "//b/z"));
        Due.seed(x, "http://a/");
        x.set(2, 5);
        x.start();
        x.run(100);
        asks(x, 0, 0, "http://a/");
        asks(x, 1, 5, "http://a/x");
        asks(x, 2, 6, "http://a:8/");
        asks(x, 3, 7, "http://b/");
        asks(x, 4, 10, "http://a/y");
        asks(x, 5, 12, "http://b/z");
        DUE.is("clock", x.clock(), 13);
        x.set(2, 1000);
        x.start();
        x.run(2);
        DUE.is("clock", x.clock(), 1001);
        x.run(2);
        DUE.is("clock", x.clock(), 1003);
    }

    private static void savesAndCrashes() {
        Finder x = new Finder();
        Due.page(x, 200, "http://a/", links("b", "c", "d", "//e/"));
        Due.page(x, 200, "http://a/b", links("f"));
        Due.page(x, 301, "http://a/c", "g");
        Due.seed(x, "http://a/");
        x.set(3, 2);
        x.start();
        x.run(3);
        DUE.is("states", Due.states(x), "2 2 3 1 1 1 1 ");
        DUE.is("crash", x.crash(), true);
        DUE.is("as behind the second asking", Due.states(x), "2 2 1 1 1 1 ");
        DUE.is("leads on no more", x.known(2, 3), -1);
        DUE.is("clock stays", x.clock(), 5);
        DUE.is("askings stay", x.count(4), 3);
        DUE.is("crash again", x.crash(), true);
        DUE.is("step", x.step(), 3);
        asks(x, 3, 7, "http://a/c");
        DUE.is("leads on to", x.known(2, 3), 6);
        x.crash();
        DUE.is("one asking since", Due.states(x), "2 2 1 1 1 1 ");
        x.run(2);
        asks(x, 4, 10, "http://a/c");
        asks(x, 5, 12, "http://a/d");
        x.crash();
        DUE.is("two askings since", Due.states(x), "2 2 3 5 1 1 1 ");
        DUE.is("clock", x.clock(), 13);
        x.run(2);
        asks(x, 6, 15, "http://e/");
        asks(x, 7, 16, "http://a/g");
        x.crash();
        x.set(2, 7);
        x.start();
        x.crash();
        DUE.is("saved at the beginning", Due.states(x), "1 ");
        x.step();
        asks(x, 0, 7, "http://a/");
        x.crash();
        DUE.is("a site that never was counts as asked", x.clock(), 8);
        DUE.is("not saved", Due.states(x), "1 ");
        x.noSeeds();
        Due.seed(x, "http://z/");
        x.start();
        x.step();
        asks(x, 0, 0, "http://z/");
    }

    private static void crashForgets() {
        Finder x = new Finder();
        Due.page(x, 200, "http://a/", links("b", "c"));
        Due.seed(x, "http://a/");
        x.start();
        x.run(2);
        x.crash();
        DUE.is("known", x.count(2), 1);
        DUE.is("waiting", x.count(3), 1);
        Due.page(x, 200, "http://a/", links("d", "b"));
        DUE.is("with another text", x.step(), 2);
        isKnown(x, 1, "http://a/d", 1, 1, 0);
        asks(x, 0, 0, "http://a/");
        asks(x, 1, 2, "http://a/b");
        asks(x, 2, 5, "http://a/");
        x.step();
        x.step();
        x.crash();
        DUE.is("three askings are less than four", Due.states(x), "1 ");
        x.set(3, 1);
        x.start();
        x.run(2);
        x.crash();
        DUE.is("saved behind each", Due.states(x), "2 5 1 ");
    }

    private static void textOfThen() {
        Finder x = new Finder();
        Due.page(x, 200, "http://a/", links("b"));
        Due.page(x, 200, "http://a/b", "one");
        Due.seed(x, "http://a/");
        x.start();
        x.step();
        Due.page(x, 404, "http://a/b", "two");
        Due.drop(x, "http://a/");
        DUE.is("b now", x.step(), 5);
        DUE.is("find", x.find(0), 1);
        DUE.is("a, which was got", x.where(0), 9);
        Due.page(x, 200, "http://a/", "");
        DUE.is("what was got stays", x.find(0), 1);
        DUE.is("a's words", x.document(0, 5), 0);
    }

    private static String sixty(int from) {
        StringBuilder text = new StringBuilder();
        for (int i = from; i < from + 60; i++) {
            text.append("<a href=").append(i).append(">");
        }
        return text.toString();
    }

    private static void knowsAtMost() {
        Finder x = new Finder();
        for (int k = 0; k < 5; k++) {
            Due.page(x, 200, "http://a/x" + k, sixty(60 * k));
            Due.seed(x, "http://a/x" + k);
        }
        Due.page(x, 301, "http://a/0", "new");
        Due.page(x, 301, "http://a/1", "x0");
        x.set(2, 0);
        x.start();
        x.run(5);
        DUE.is("250 at most", x.count(2), 250);
        DUE.is("the last one", Due.address(x, 249), "http://a/244");
        DUE.is("none", x.address(250), -1);
        DUE.is("none", x.known(250, 0), -1);
        DUE.is("leads on to one that is not known", x.step(), 3);
        DUE.is("which is none", x.known(5, 3), -1);
        DUE.is("leads on to one that is known", x.step(), 3);
        DUE.is("which is x0", x.known(6, 3), 0);
        DUE.is("the others", x.run(1000), 243);
        DUE.is("all asked for", x.count(4), 250);
    }

    private static void askingsAtMost() {
        Finder x = new Finder();
        Due.page(x, 200, "http://a/", sixty(10));
        Due.seed(x, "http://a/");
        x.set(2, 0);
        x.set(3, 50);
        x.start();
        for (int i = 0; i < 21; i++) {
            x.run(49);
            x.crash();
        }
        DUE.is("askings", x.count(4), 1029);
        DUE.is("clock", x.clock(), 1029);
        DUE.is("the 1000th", x.asking(999, 0), 999);
        DUE.is("the 1000th", x.asking(999, 1), 11);
        DUE.is("the 1000th", Due.product(x), "http://a/28");
        DUE.is("the 1001st", x.asking(1000, 0), -1);
        DUE.is("the 1001st", x.asking(1000, 1), -1);
        x.run(50);
        x.crash();
        DUE.is("saved behind the 50th", x.count(3), 11);
    }

    private static void readsOfWhatIsNone() {
        Finder x = new Finder();
        Due.seed(x, "http://a/b");
        x.start();
        x.step();
        Due.read(x, "http://h/", "x");
        DUE.is("known(-1, 0)", x.known(-1, 0), -1);
        DUE.is("known(1, 0)", x.known(1, 0), -1);
        DUE.is("known(0, -1)", x.known(0, -1), -1);
        DUE.is("known(0, 4)", x.known(0, 4), -1);
        DUE.is("asking(-1, 0)", x.asking(-1, 0), -1);
        DUE.is("asking(-1, 1)", x.asking(-1, 1), -1);
        DUE.is("asking(1, 1)", x.asking(1, 1), -1);
        DUE.is("asking(0, -1)", x.asking(0, -1), -1);
        DUE.is("asking(0, 2)", x.asking(0, 2), -1);
        DUE.is("asking(0, 0)", x.asking(0, 0), 0);
        DUE.is("address(-1)", x.address(-1), -1);
        DUE.is("address(1)", x.address(1), -1);
        DUE.is("count(-1)", x.count(-1), -1);
        DUE.is("count(5)", x.count(5), -1);
        DUE.is("the product stays", Due.product(x), "http://h/x");
        DUE.is("address(0)", x.address(0), 10);
        DUE.is("the product", Due.product(x), "http://a/b");
    }
}
