import java.lang.management.ManagementFactory;

/**
 * All that 512 calls make lives in one room of some 600,000 objects and 7.3 million fields and elements. What a thread
 * makes is counted in bytes here: an element has one at least, an object sixteen.
 */
public final class RoomTest {
    private static final Due DUE = new Due();
    private static final String NAMES = "ABCDEFGHIJKLMNOPQRSTUVWXYZabcdefghijklmnopqrstuvwxyz01234567";

    public static void main(String[] args) {
        isSmall("calls one by one", RoomTest::calls);
        isSmall("crawls again and again", RoomTest::crawls);
        isSmall("crashes again and again", RoomTest::crashes);
        isSmall("finds and asks again and again", RoomTest::finds);
        DUE.end("RoomTest");
    }

    private interface Run {
        void on(Finder x);
    }

    private static long madeSoFar() {
        return ((com.sun.management.ThreadMXBean) ManagementFactory.getThreadMXBean()).getCurrentThreadAllocatedBytes();
    }

    private static void isSmall(String name, Run run) {
        run.on(new Finder());
        long before = madeSoFar();
        run.on(new Finder());
        long made = madeSoFar() - before;
        System.out.println(name + ": " + made + " bytes");
        DUE.is(name + " stays below 2,000,000 bytes", made < 2000000, true);
    }

    private static void calls(Finder x) {
        for (int i = 0; x.callsLeft() >= 2; i++) {
            x.feed(0x68747470, 0x3a2f2f61 + i % 20, 0x2f0a3c61, 0x20687265, 0x663d783e);
            switch (i % 8) {
                case 0:
                    x.read();
                    break;
                case 1:
                    x.page(200);
                    break;
                case 2:
                    x.rules();
                    break;
                case 3:
                    x.look(0);
                    break;
                case 4:
                    x.look(1);
                    break;
                case 5:
                    x.seed();
                    break;
                case 6:
                    x.allowed();
                    break;
                default:
                    x.ask(0);
                    break;
            }
        }
    }

    /** A web whose addresses are as long as they can be, with as many links as there can be. */
    private static void tellWeb(Finder x) {
        String folder = "http://" + "h".repeat(60) + "/" + "p".repeat(129) + "/";
        for (int page = 0; page < 5; page++) {
            StringBuilder text = new StringBuilder();
            for (int i = 0; i < 60; i++) {
                text.append("<a href=").append(page).append(NAMES.charAt(i)).append('>');
            }
            Due.page(x, 200, folder + page, text.toString());
            Due.seed(x, folder + page);
        }
        x.set(3, 50);
    }

    private static void crawls(Finder x) {
        tellWeb(x);
        while (x.callsLeft() >= 2) {
            x.start();
            x.run(1000);
        }
    }

    private static void crashes(Finder x) {
        tellWeb(x);
        x.start();
        while (x.callsLeft() >= 2) {
            x.run(49);
            x.crash();
        }
    }

    private static void finds(Finder x) {
        tellWeb(x);
        x.start();
        x.run(1000);
        for (int i = 0; x.callsLeft() >= 2; i++) {
            x.find(50);
            x.ask(i % 3);
        }
    }
}
