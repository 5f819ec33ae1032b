/** The edges of promises 10 to 21, and of CRAWLING. */
public final class CrawlEdgesTest {
    private static final Due DUE = new Due();
    private static final int LEAST = Integer.MIN_VALUE;
    private static final int MOST = Integer.MAX_VALUE;

    public static void main(String[] args) {
        settingNumbers();
        depthSetting();
        chainSetting();
        restSetting();
        everySetting();
        fromTheNextStartOn();
        twentySeeds();
        seedsThatAreTheSame();
        seedsOfNothing();
        noSeeds();
        seedsEachOnce();
        startForgets();
        startOfNone();
        known250();
        fullButKnown();
        fullBySeedsAndCrash();
        tooDeepIsNotKnown();
        lessDepthWhileWaiting();
        leastFirst();
        notAllowed();
        rests();
        restsOfSites();
        shortSitesBesideLongOnes();
        statuses();
        firstLines();
        leadsOnAndIsNotKnown();
        leadsOnAtTheChainsEnd();
        textOfThen();
        steps();
        runs();
        savedAtTheBeginning();
        savedBehindSteps();
        notAllowedIsNoAsking();
        crashSince();
        crashRests();
        crashBeforeStart();
        clocks();
        counts();
        knownNone();
        leadNumbers();
        askings();
        askingsFrom1000On();
        addresses();
        DUE.end("CrawlEdgesTest");
    }

    /** Pages http://a/0 .. each with a link to the next one, or leading on to it. */
    private static Finder row(int pages, boolean leadOn) {
        Finder x = new Finder();
        for (int i = 0; i < pages; i++) {
            Due.page(x, leadOn ? 301 : 200, "http://a/" + i, leadOn ? "" + (i + 1) : "<a href=" + (i + 1) + ">");
        }
        Due.seed(x, "http://a/0");
        return x;
    }

    /** A page http://a/ with sixty links to pages that are not there. */
    private static Finder star() {
        Finder x = new Finder();
        Due.page(x, 200, "http://a/", sixty(10));
        Due.seed(x, "http://a/");
        return x;
    }

    private static String sixty(int from) {
        StringBuilder text = new StringBuilder();
        for (int i = from; i < from + 60; i++) {
            text.append("<a href=").append(i).append('>');
        }
        return text.toString();
    }

    private static String whole(Finder x) {
        x.start();
        x.run(1000);
        return Due.states(x);
    }

    private static void settingNumbers() {
        DUE.of("Answers true; false when there is none such, or the value is not such.");
        Finder x = new Finder();
        for (int setting : new int[] {-1, 4, 5, LEAST, MOST}) {
            DUE.is("set " + setting, x.set(setting, 1), false);
        }
        int[][] ranges = {{0, 20}, {0, 8}, {0, 1000}, {1, 50}};
        for (int setting = 0; setting < 4; setting++) {
            int least = ranges[setting][0];
            int most = ranges[setting][1];
            for (int value : new int[] {least, least + 1, most - 1, most}) {
                DUE.is("set " + setting + " " + value, x.set(setting, value), true);
            }
            for (int value : new int[] {least - 1, most + 1, LEAST, MOST, -most}) {
                DUE.is("set " + setting + " " + value, x.set(setting, value), false);
            }
        }
    }

    private static void depthSetting() {
        DUE.of("0 DEPTH, 0 .. 20 (3)");
        Finder x = row(22, false);
        x.set(2, 0);
        x.start();
        DUE.is("3 at first", x.run(100), 4);
        DUE.is("known", x.count(2), 4);
        x.set(0, 0);
        x.start();
        DUE.is("0", x.run(100), 1);
        x.set(0, 1);
        x.start();
        DUE.is("1", x.run(100), 2);
        x.set(0, 20);
        x.start();
        DUE.is("20", x.run(100), 21);
        DUE.is("known", x.count(2), 21);
        DUE.is("depth of the last", x.known(20, 1), 20);
        x.set(0, 21);
        x.set(0, -1);
        x.start();
        DUE.is("what was refused changes nothing", x.run(100), 21);
    }

    private static void chainSetting() {
        DUE.of("1 CHAIN, 0 .. 8 (3)");
        Finder x = row(12, true);
        DUE.is("3 at first", whole(x), "3 3 3 5 ");
        DUE.is("chain of the last", x.known(3, 2), 3);
        x.set(1, 0);
        DUE.is("0", whole(x), "5 ");
        x.set(1, 1);
        DUE.is("1", whole(x), "3 5 ");
        x.set(1, 8);
        DUE.is("8", whole(x), "3 3 3 3 3 3 3 3 5 ");
        DUE.is("chain of the last", x.known(8, 2), 8);
        x.set(1, 9);
        x.set(1, -1);
        DUE.is("what was refused changes nothing", whole(x), "3 3 3 3 3 3 3 3 5 ");
    }

    private static void restSetting() {
        DUE.of("2 REST, 0 .. 1000 (2)");
        Finder x = new Finder();
        Due.seed(x, "http://a/0");
        Due.seed(x, "http://a/1");
        int[][] rests = {{-5, 2}, {0, 1}, {1, 1}, {2, 2}, {999, 999}, {1000, 1000}, {1001, 1000}, {-1, 1000}};
        for (int[] rest : rests) {
            DUE.is("set", x.set(2, rest[0]), rest[0] >= 0 && rest[0] <= 1000);
            whole(x);
            DUE.is("second asking with rest " + rest[0], x.asking(1, 0), rest[1]);
            DUE.is("clock", x.clock(), rest[1] + 1);
        }
    }

    private static void everySetting() {
        DUE.of("3 EVERY, 1 .. 50 (4)");
        int[][] turns = {{-5, 4}, {1, 1}, {2, 2}, {50, 50}, {51, 50}, {0, 50}};
        Finder x = star();
        x.set(2, 0);
        for (int[] turn : turns) {
            DUE.is("set", x.set(3, turn[0]), turn[0] >= 1 && turn[0] <= 50);
            x.start();
            x.run(turn[1] - 1);
            x.crash();
            DUE.is("one asking before " + turn[1], x.count(2), 1);
            DUE.is("the seed waits", x.known(0, 0), 1);
            x.run(turn[1]);
            x.crash();
            DUE.is("behind asking " + turn[1], x.count(2), 61);
            DUE.is("those that wait", x.count(3), 61 - turn[1]);
        }
    }

    private static void fromTheNextStartOn() {
        DUE.of("A setting becomes another one, from the next start on.");
        Finder x = row(6, false);
        x.start();
        x.set(0, 0);
        x.set(2, 9);
        x.set(3, 1);
        DUE.is("the depth of before", x.run(100), 4);
        DUE.is("the rest of before", x.clock(), 7);
        x.start();
        x.set(0, 20);
        x.set(2, 0);
        x.set(3, 50);
        DUE.is("the depth since", x.run(100), 1);
        x.crash();
        DUE.is("the turns since", x.count(3), 0);
        x.start();
        DUE.is("and the next", x.run(100), 7);
        DUE.is("the rest", x.clock(), 7);
        x.crash();
        DUE.is("the turns", x.count(3), 1);
        x = row(4, true);
        x.start();
        x.set(1, 0);
        x.run(100);
        DUE.is("the chain of before", Due.states(x), "3 3 3 5 ");
    }

    private static void twentySeeds() {
        DUE.of("Answers how many there are; NONE when nothing comes of it, or there are 20.");
        Finder x = new Finder();
        for (int i = 1; i <= 20; i++) {
            DUE.is("seed " + i, Due.seed(x, "http://a/" + i), i);
            DUE.is("the tape", x.end(0), 0);
        }
        DUE.is("a 21st", Due.seed(x, "http://a/21"), -1);
        DUE.is("the tape", x.end(0), 0);
        DUE.is("one that is there", Due.seed(x, "http://a/1"), -1);
        DUE.is("count", x.count(1), 20);
        DUE.is("start", x.start(), 20);
        DUE.is("the first", Due.address(x, 0), "http://a/1");
        DUE.is("the last", Due.address(x, 19), "http://a/20");
        DUE.is("behind the last", x.known(20, 0), -1);
    }

    private static void seedsThatAreTheSame() {
        DUE.of("SEEDS are addresses, 20 at most.");
        Finder x = new Finder();
        for (int i = 1; i <= 20; i++) {
            DUE.is("the same " + i, Due.seed(x, "http://a/"), i);
        }
        DUE.is("a 21st", Due.seed(x, "http://a/"), -1);
        DUE.is("count", x.count(1), 20);
        DUE.is("known once", x.start(), 1);
    }

    private static void seedsOfNothing() {
        DUE.of("Uses the tape, which is read without a base: one more seed.");
        Finder x = new Finder();
        Due.seed(x, "http://b/");
        for (String tape : new String[] {"", "\n", "a", "/a", "?", "//", "https://a/", "http://a/\nb", "http://a/ b"}) {
            DUE.is("nothing: " + tape, Due.seed(x, tape), -1);
            DUE.is("the tape", x.end(0), 0);
            DUE.is("count", x.count(1), 1);
        }
        DUE.is("blanks at both ends", Due.seed(x, " //A:80#x\r\n"), 2);
        DUE.is("one that is there already is one more all the same", Due.seed(x, "http://b"), 3);
        DUE.is("count", x.count(1), 3);
        DUE.is("start", x.start(), 2);
        DUE.is("address", Due.address(x, 1), "http://a/");
    }

    private static void noSeeds() {
        DUE.of("No seeds.");
        Finder x = new Finder();
        x.noSeeds();
        DUE.is("none before", x.count(1), 0);
        for (int i = 0; i < 20; i++) {
            Due.seed(x, "http://a/" + i);
        }
        x.start();
        x.noSeeds();
        DUE.is("count", x.count(1), 0);
        DUE.is("the crawl goes on", x.count(2), 20);
        DUE.is("the crawl goes on", x.run(100), 20);
        x.noSeeds();
        DUE.is("there is room again", Due.seed(x, "http://b/"), 1);
        x.crash();
        DUE.is("what was saved had them", x.count(2), 20);
        DUE.is("start", x.start(), 1);
        x.noSeeds();
        DUE.is("start with none", x.start(), 0);
    }

    private static void seedsEachOnce() {
        DUE.of("At its beginning it knows the seeds, in their order, each once, with depth 0 and chain 0, waiting.");
        Finder x = new Finder();
        for (String seed : new String[] {"http://b/", "http://a/", "HTTP://B:80", "http://a/#x", "http://b/?"}) {
            Due.seed(x, seed);
        }
        DUE.is("seeds", x.count(1), 5);
        DUE.is("start", x.start(), 3);
        String[] known = {"http://b/", "http://a/", "http://b/?"};
        for (int i = 0; i < 3; i++) {
            DUE.is("address " + i, Due.address(x, i), known[i]);
            DUE.is("state", x.known(i, 0), 1);
            DUE.is("depth", x.known(i, 1), 0);
            DUE.is("chain", x.known(i, 2), 0);
            DUE.is("leads on to", x.known(i, 3), -1);
        }
        DUE.is("waiting", x.count(3), 3);
    }

    private static void startForgets() {
        DUE.of("Starts a crawl: nothing is known but the seeds. The askings before are forgotten.");
        Finder x = row(3, false);
        x.set(2, 50);
        x.start();
        x.run(100);
        DUE.is("known", x.count(2), 4);
        x.crash();
        DUE.is("start", x.start(), 1);
        DUE.is("waiting", x.count(3), 1);
        DUE.is("askings", x.count(4), 0);
        DUE.is("asking 0", x.asking(0, 0), -1);
        DUE.is("asking 0", x.asking(0, 1), -1);
        DUE.is("clock", x.clock(), 0);
        x.step();
        DUE.is("no site was asked before", x.asking(0, 0), 0);
        DUE.is("clock", x.clock(), 1);
    }

    private static void startOfNone() {
        DUE.of("Answers how many addresses are known.");
        Finder x = new Finder();
        DUE.is("start", x.start(), 0);
        DUE.is("clock", x.clock(), 0);
        DUE.is("step", x.step(), -1);
        DUE.is("run(0)", x.run(0), 0);
        DUE.is("run(9)", x.run(9), 0);
        DUE.is("run(-1)", x.run(-1), -1);
        DUE.is("crash", x.crash(), true);
        DUE.is("known", x.known(0, 0), -1);
        DUE.is("find", x.find(0), 0);
    }

    private static void known250() {
        DUE.of("numbered from 0 on as it got to know them, 250 at most (one more is passed over)");
        Finder x = new Finder();
        for (int k = 0; k < 5; k++) {
            Due.page(x, 200, "http://a/x" + k, sixty(60 * k));
            Due.seed(x, "http://a/x" + k);
        }
        x.set(2, 0);
        x.start();
        x.run(4);
        DUE.is("5 and 240", x.count(2), 245);
        x.run(1);
        DUE.is("and 5 more of 60", x.count(2), 250);
        DUE.is("waiting", x.count(3), 245);
        DUE.is("the last", Due.address(x, 249), "http://a/244");
        DUE.is("its state", x.known(249, 0), 1);
        DUE.is("behind the last", x.address(250), -1);
        DUE.is("behind the last", x.known(250, 0), -1);
        DUE.is("all others", x.run(1000), 245);
        DUE.is("askings", x.count(4), 250);
        DUE.is("none waits", x.step(), -1);
    }

    /** The seed, sixty links of it, and of four of these as many as there is room for. */
    private static Finder full() {
        Finder x = new Finder();
        Due.page(x, 200, "http://a/", sixty(0));
        for (int k = 0; k < 4; k++) {
            Due.page(x, 200, "http://a/" + k, sixty(60 + 60 * k));
        }
        Due.seed(x, "http://a/");
        x.set(2, 0);
        return x;
    }

    private static void fullButKnown() {
        DUE.of("250 at most (one more is passed over)");
        Finder x = full();
        Due.page(x, 301, "http://a/4", "200");
        Due.page(x, 301, "http://a/5", "300");
        Due.page(x, 301, "http://a/6", "/");
        x.start();
        x.run(5);
        DUE.is("known", x.count(2), 250);
        DUE.is("200", Due.address(x, 201), "http://a/200");
        DUE.is("depth of 200", x.known(201, 1), 2);
        DUE.is("leads on to 200", x.step(), 3);
        DUE.is("200 is known", x.known(5, 3), 201);
        DUE.is("and has the less depth then", x.known(201, 1), 1);
        DUE.is("with its chain", x.known(201, 2), 1);
        DUE.is("leads on to one more", x.step(), 3);
        DUE.is("which is not known", x.known(6, 3), -1);
        DUE.is("leads on to the seed", x.step(), 3);
        DUE.is("which is known", x.known(7, 3), 0);
        DUE.is("known", x.count(2), 250);
    }

    private static void fullBySeedsAndCrash() {
        DUE.of("A CRASH: what is known is what was saved");
        Finder x = full();
        x.set(3, 50);
        x.start();
        x.run(5);
        DUE.is("full", x.count(2), 250);
        x.crash();
        DUE.is("one was saved", x.count(2), 1);
        DUE.is("and waits", x.count(3), 1);
        DUE.is("behind it there is none", x.address(1), -1);
        Due.page(x, 200, "http://a/", "<a href=new>");
        x.step();
        DUE.is("there is room again", x.count(2), 2);
        DUE.is("for others", Due.address(x, 1), "http://a/new");
    }

    private static void tooDeepIsNotKnown() {
        DUE.of("if it is not known, and the depth is at most DEPTH and the chain at most CHAIN, it is known then, and "
            + "waits");
        Finder x = new Finder();
        Due.page(x, 200, "http://a/", "<a href=1>");
        Due.page(x, 200, "http://a/1", "<a href=2><a href=/>");
        Due.page(x, 302, "http://a/2", "3");
        Due.page(x, 302, "http://a/3", "4");
        Due.seed(x, "http://a/");
        x.set(0, 1);
        DUE.is("2 would have depth 2", whole(x), "2 2 ");
        x.set(0, 2);
        x.set(1, 1);
        DUE.is("2 has depth 2, 3 chain 1, and leads on no more", whole(x), "2 2 3 5 ");
        DUE.is("depth of 3 is that of 2", x.known(3, 1), 2);
        DUE.is("chain of 3", x.known(3, 2), 1);
        x.set(1, 2);
        DUE.is("3 leads on to 4", whole(x), "2 2 3 3 5 ");
        DUE.is("chain of 4", x.known(4, 2), 2);
    }

    private static void lessDepthWhileWaiting() {
        DUE.of("if it waits with a greater depth, or the same and a greater chain, it has these then.");
        Finder x = new Finder();
        Due.page(x, 200, "http://a/", "<a href=p><a href=r><a href=s>");
        Due.page(x, 200, "http://a/p", "<a href=t><a href=/><a href=r>");
        Due.page(x, 301, "http://a/r", "t");
        Due.page(x, 301, "http://a/s", "t");
        Due.seed(x, "http://a/");
        x.start();
        x.run(2);
        DUE.is("t", Due.address(x, 4), "http://a/t");
        DUE.is("depth of t", x.known(4, 1), 2);
        DUE.is("chain of t", x.known(4, 2), 0);
        DUE.is("one that was got has its depth", x.known(0, 1), 0);
        DUE.is("one that waits with a less depth has it", x.known(2, 1), 1);
        x.step();
        DUE.is("less depth of t", x.known(4, 1), 1);
        DUE.is("with a greater chain", x.known(4, 2), 1);
        x.step();
        DUE.is("found with the same", x.known(4, 1), 1);
        DUE.is("found with the same", x.known(4, 2), 1);
        DUE.is("t failed", x.step(), 5);
        DUE.is("known", x.count(2), 5);
    }

    private static void leastFirst() {
        DUE.of("A STEP takes of those that wait the one of the least depth, of these of the least chain, of these of the "
            + "least number.");
        Finder x = new Finder();
        Due.page(x, 301, "http://a/r", "//b/s");
        Due.page(x, 301, "http://b/s", "t");
        Due.page(x, 200, "http://a/p", "<a href=q>");
        for (String seed : new String[] {"r", "p", "n"}) {
            Due.seed(x, "http://a/" + seed);
        }
        x.set(2, 0);
        x.start();
        x.run(100);
        String[] asked = {"http://a/r", "http://a/p", "http://a/n", "http://b/s", "http://b/t", "http://a/q"};
        DUE.is("askings", x.count(4), asked.length);
        for (int k = 0; k < asked.length; k++) {
            x.asking(k, 1);
            DUE.is("asking " + k, Due.product(x), asked[k]);
        }
    }

    private static void notAllowed() {
        DUE.of("If it is not allowed by its site's rules it is so, and that is all.");
        Finder x = new Finder();
        Due.page(x, 200, "http://a/x", "<a href=y>");
        Due.rules(x, "http://a/", "user-agent: *\ndisallow: /x");
        for (String seed : new String[] {"x", "x2", "y"}) {
            Due.seed(x, "http://a/" + seed);
        }
        x.set(2, 9);
        x.start();
        DUE.is("x", x.step(), 4);
        DUE.is("x2", x.step(), 4);
        DUE.is("clock", x.clock(), 0);
        DUE.is("askings", x.count(4), 0);
        DUE.is("asking", x.asking(0, 0), -1);
        DUE.is("no links of it", x.count(2), 3);
        DUE.is("leads on to", x.known(0, 3), -1);
        DUE.is("y", x.step(), 5);
        DUE.is("the site was not asked before", x.asking(0, 0), 0);
        DUE.is("states", Due.states(x), "4 4 5 ");
        Due.rules(x, "http://a/", "");
        DUE.is("it does not wait again", x.step(), -1);
    }

    private static void rests() {
        DUE.of("if its site was asked before, at some time t, the clock goes on to t + REST, if it is less; the address "
            + "is ASKED FOR at that time, and then the clock goes on by 1.");
        // Sites a, b, c, and a again; with a rest of 2, 3 and 4 the clock is beyond, at, and before the time.
        int[] due = {3, 3, 4};
        for (int rest = 2; rest <= 4; rest++) {
            Finder x = new Finder();
            for (String seed : new String[] {"a/1", "b/1", "c/1", "a/2", "a:81/", "c/2", "b/2"}) {
                Due.seed(x, "http://" + seed);
            }
            x.set(2, rest);
            x.start();
            x.run(3);
            DUE.is("clock", x.clock(), 3);
            x.step();
            DUE.is("asked at, with rest " + rest, x.asking(3, 0), due[rest - 2]);
            DUE.is("clock", x.clock(), due[rest - 2] + 1);
            x.step();
            DUE.is("another port is another site", x.asking(4, 0), due[rest - 2] + 1);
        }
    }

    private static void restsOfSites() {
        DUE.of("if its site was asked before");
        Finder x = new Finder();
        for (String seed : new String[] {"ab/", "a:8/", "a.b/", "a/", "a:80/x", "a:80/", "ab/?", "a.b/y"}) {
            Due.seed(x, "http://" + seed);
        }
        x.set(2, 100);
        x.start();
        x.run(9);
        int[] due = {0, 1, 2, 3, 103, 104, 105};
        DUE.is("askings: one of the seeds was there twice", x.count(4), 7);
        for (int k = 0; k < 7; k++) {
            DUE.is("asking " + k, x.asking(k, 0), due[k]);
        }
    }

    /** The last address known is asked for before a far longer one; seeds before it have any number of bytes in all. */
    private static void shortSitesBesideLongOnes() {
        DUE.of("if its site was asked before");
        String site = "http://" + "h".repeat(60) + "/";
        for (int length = 9; length <= 200; length++) {
            Finder x = new Finder();
            Due.page(x, 200, "http://a/", "<a href=" + site + ">");
            Due.page(x, 301, "http://b/r", "http://c/");
            Due.seed(x, "http://a/");
            Due.seed(x, "http://b/r");
            for (int i = 0; i < 4; i++) {
                Due.seed(x, "http://" + i + "/" + "x".repeat(191));
            }
            Due.seed(x, "http://d/" + "x".repeat(length - 9));
            x.start();
            DUE.is("steps", x.run(100), 9);
            DUE.is("the one that was known last", x.asking(7, 1), 9);
            DUE.is("then the long one", x.asking(8, 1), site.length());
            DUE.is("which need not rest", x.asking(8, 0), 8);
        }
    }

    private static void statuses() {
        DUE.of("If the web has its page with status 200 it is got, with the text that it has then, and all links of the "
            + "page are found");
        int[][] statuses = {{100, 5}, {199, 5}, {200, 2}, {201, 5}, {299, 5}, {300, 3}, {301, 3}, {399, 3}, {400, 5},
            {404, 5}, {599, 5}};
        for (int[] status : statuses) {
            Finder x = new Finder();
            Due.page(x, status[0], "http://a/", "x\n<a href=y><a href=z>");
            Due.seed(x, "http://a/");
            x.start();
            DUE.is("status " + status[0], x.step(), status[1]);
            DUE.is("known", x.count(2), status[1] == 2 ? 3 : status[1] == 3 ? 2 : 1);
            DUE.is("leads on to", x.known(0, 3), status[1] == 3 ? 1 : -1);
        }
        Finder none = new Finder();
        Due.seed(none, "http://a/");
        none.start();
        DUE.is("no page", none.step(), 5);
        DUE.is("asked for all the same", none.count(4), 1);
    }

    private static void leadsTo(String text, String want) {
        Finder x = new Finder();
        Due.page(x, 302, "http://a/b/c?d", text);
        Due.seed(x, "http://a/b/c?d");
        x.start();
        DUE.is("state with " + text, x.step(), want.isEmpty() ? 5 : 3);
        int i = x.known(0, 3);
        DUE.is("leads on with " + text, i == -1 ? "" : Due.address(x, i), want);
    }

    private static void firstLines() {
        DUE.of("With a status of 300 .. 399 the first line of its text is read with it as base");
        leadsTo("x", "http://a/b/x");
        leadsTo("x\ny", "http://a/b/x");
        leadsTo("x\r\ny", "http://a/b/x");
        leadsTo(" x \n", "http://a/b/x");
        leadsTo("x\ry", "");
        leadsTo("", "http://a/b/c?d");
        leadsTo("\n", "http://a/b/c?d");
        leadsTo("\nx", "http://a/b/c?d");
        leadsTo("\r\nx", "http://a/b/c?d");
        leadsTo("#x", "http://a/b/c?d");
        leadsTo("?", "http://a/b/c?");
        leadsTo("//k", "http://k/");
        leadsTo("x y", "");
        leadsTo(":", "");
        leadsTo("<a href=x>", "");
        leadsTo("&amp;", "http://a/b/&amp;");
        leadsTo("p".repeat(189), "http://a/b/" + "p".repeat(189));
        leadsTo("p".repeat(190), "");
    }

    private static void leadsOnAndIsNotKnown() {
        DUE.of("3 the number of the address that it leads on to (NONE when it leads on to none, or that is not known)");
        Finder x = new Finder();
        Due.page(x, 301, "http://a/1", "2");
        Due.page(x, 301, "http://a/2", "1");
        Due.page(x, 301, "http://a/3", "");
        for (int i = 1; i < 5; i++) {
            Due.seed(x, "http://a/" + i);
        }
        x.start();
        DUE.is("waiting leads on to none", x.known(0, 3), -1);
        x.run(100);
        DUE.is("states", Due.states(x), "3 3 3 5 ");
        DUE.is("to one behind it", x.known(0, 3), 1);
        DUE.is("to one before it", x.known(1, 3), 0);
        DUE.is("to itself", x.known(2, 3), 2);
        DUE.is("failed leads on to none", x.known(3, 3), -1);
        DUE.is("itself has its chain", x.known(2, 2), 0);
    }

    private static void leadsOnAtTheChainsEnd() {
        DUE.of("if an address comes of that, and its own chain is less than CHAIN, it leads on to that, which is found "
            + "with the same depth and a chain one greater. Else it is failed.");
        Finder x = row(3, true);
        Due.page(x, 301, "http://a/2", "0");
        x.set(1, 2);
        DUE.is("chains 0 and 1 lead on, chain 2 fails, though what it leads to is known", whole(x), "3 3 5 ");
        DUE.is("it leads on to none", x.known(2, 3), -1);
        x.set(1, 3);
        DUE.is("chain 2 leads on", whole(x), "3 3 3 ");
        DUE.is("to 0", x.known(2, 3), 0);
        DUE.is("which has its chain", x.known(0, 2), 0);
    }

    private static void textOfThen() {
        DUE.of("it is got, with the text that it has then");
        Finder x = new Finder();
        Due.page(x, 200, "http://a/", "one");
        Due.seed(x, "http://a/");
        x.start();
        Due.page(x, 200, "http://a/", "two two");
        x.step();
        Due.page(x, 200, "http://a/", "three three three");
        x.find(0);
        DUE.is("words", x.document(0, 5), 2);
        Due.drop(x, "http://a/");
        x.crash();
        DUE.is("it was not saved, and is not there any more", x.step(), 5);
        x.set(3, 1);
        Due.page(x, 200, "http://a/", "four");
        x.start();
        x.step();
        Due.drop(x, "http://a/");
        x.crash();
        DUE.is("it was saved, with its text", x.find(0), 1);
        DUE.is("ask", Due.ask(x, 0, "four"), 1);
    }

    private static void steps() {
        DUE.of("A step. Answers the state of the address that it took; NONE when no crawl has started or nothing waits.");
        Finder x = new Finder();
        DUE.is("no crawl", x.step(), -1);
        Due.page(x, 200, "http://a/1", "");
        Due.page(x, 301, "http://a/2", "1");
        Due.rules(x, "http://b/", "user-agent: *\ndisallow: /");
        for (String seed : new String[] {"a/1", "a/2", "b/", "a/3"}) {
            Due.seed(x, "http://" + seed);
        }
        DUE.is("no crawl", x.step(), -1);
        x.start();
        DUE.is("got", x.step(), 2);
        DUE.is("leads on", x.step(), 3);
        DUE.is("not allowed", x.step(), 4);
        DUE.is("failed", x.step(), 5);
        int clock = x.clock();
        DUE.is("nothing waits", x.step(), -1);
        DUE.is("nothing waits", x.step(), -1);
        DUE.is("clock", x.clock(), clock);
        DUE.is("askings", x.count(4), 3);
    }

    private static void runs() {
        DUE.of("Steps until nothing waits, or so many. Answers how many these were; NONE when no crawl has started, or "
            + "most is below 0.");
        Finder x = row(6, false);
        x.set(0, 20);
        for (int most : new int[] {0, 1, -1, LEAST, MOST}) {
            DUE.is("no crawl: run " + most, x.run(most), -1);
        }
        x.start();
        DUE.is("run(-1)", x.run(-1), -1);
        DUE.is("run(least)", x.run(LEAST), -1);
        DUE.is("run(0)", x.run(0), 0);
        DUE.is("none was taken", x.count(4), 0);
        DUE.is("run(1)", x.run(1), 1);
        DUE.is("one was taken", x.count(4), 1);
        DUE.is("run(5)", x.run(5), 5);
        DUE.is("one waits", x.count(3), 1);
        DUE.is("run(2): one more than wait", x.run(2), 1);
        DUE.is("run(most)", x.run(MOST), 0);
        DUE.is("run(-1)", x.run(-1), -1);
        x.start();
        DUE.is("run(7): as many as there are", x.run(7), 7);
        x.start();
        DUE.is("run(most)", x.run(MOST), 7);
        Due.rules(x, "http://a/", "user-agent: *\ndisallow: /3");
        x.start();
        DUE.is("one that is not allowed counts", x.run(MOST), 4);
    }

    private static void savedAtTheBeginning() {
        DUE.of("what is known, with all that is said of it, is saved at the beginning");
        Finder x = row(3, false);
        x.start();
        x.crash();
        DUE.is("before the first step", Due.states(x), "1 ");
        DUE.is("clock", x.clock(), 0);
        x.run(3);
        DUE.is("states", Due.states(x), "2 2 2 1 ");
        x.crash();
        DUE.is("behind three askings of four", Due.states(x), "1 ");
        DUE.is("depth", x.known(0, 1), 0);
        x.run(3);
        x.start();
        x.crash();
        DUE.is("the beginning of the next one", Due.states(x), "1 ");
    }

    private static void savedBehindSteps() {
        DUE.of("and behind each step after which EVERY askings, or more, were since it was saved last.");
        Finder x = row(8, false);
        x.set(0, 20);
        x.set(2, 0);
        x.set(3, 3);
        x.start();
        String[] due = {"1 ", "1 ", "1 ", "2 2 2 1 ", "2 2 2 1 ", "2 2 2 1 ", "2 2 2 2 2 2 1 ", "2 2 2 2 2 2 1 "};
        for (int steps = 0; steps < due.length; steps++) {
            x.start();
            x.run(steps);
            x.crash();
            DUE.is("behind " + steps, Due.states(x), due[steps]);
        }
    }

    private static void notAllowedIsNoAsking() {
        DUE.of("EVERY askings, or more, were since it was saved last");
        Finder x = new Finder();
        Due.rules(x, "http://a/", "user-agent: *\ndisallow: /n");
        for (String seed : new String[] {"n1", "x1", "n2", "n3", "x2", "n4"}) {
            Due.seed(x, "http://a/" + seed);
        }
        x.set(3, 2);
        for (int steps = 0; steps <= 6; steps++) {
            x.start();
            x.run(steps);
            x.crash();
            DUE.is("behind " + steps, Due.states(x), steps < 5 ? "1 1 1 1 1 1 " : "4 5 4 4 5 1 ");
        }
    }

    private static void crashSince() {
        DUE.of("what is known is what was saved, and so is how many askings there were since (0); the clock and the "
            + "askings stay as they are");
        Finder x = row(6, false);
        x.set(0, 20);
        x.set(3, 2);
        x.set(2, 5);
        x.start();
        x.run(3);
        DUE.is("clock", x.clock(), 11);
        x.crash();
        DUE.is("states", Due.states(x), "2 2 1 ");
        DUE.is("clock stays", x.clock(), 11);
        DUE.is("askings stay", x.count(4), 3);
        DUE.is("the last asking stays", x.asking(2, 0), 10);
        x.run(1);
        x.crash();
        DUE.is("one asking since, not two", Due.states(x), "2 2 1 ");
        DUE.is("askings", x.count(4), 4);
        x.crash();
        DUE.is("again", Due.states(x), "2 2 1 ");
        x.run(2);
        x.crash();
        DUE.is("two askings since", Due.states(x), "2 2 2 2 1 ");
        DUE.is("askings", x.count(4), 6);
    }

    private static void crashRests() {
        DUE.of("but each site, also one that never was, counts as asked at the clock then.");
        Finder x = new Finder();
        for (String seed : new String[] {"a/", "b/", "c/", "a/2"}) {
            Due.seed(x, "http://" + seed);
        }
        x.set(2, 10);
        x.set(3, 1);
        x.start();
        x.crash();
        x.step();
        DUE.is("a, never asked, at 0 + 10", x.asking(0, 0), 10);
        x.crash();
        x.step();
        DUE.is("b, never asked, at 11 + 10", x.asking(1, 0), 21);
        x.step();
        DUE.is("c, never asked, is not to rest any more at 22", x.asking(2, 0), 22);
        x.step();
        DUE.is("a, at 11 + 10, not at 10 + 10", x.asking(3, 0), 23);
        x.set(2, 0);
        x.start();
        x.crash();
        x.step();
        DUE.is("no rest", x.asking(0, 0), 0);
        x.crash();
        x.step();
        DUE.is("no rest", x.asking(1, 0), 1);
        x.set(2, 10);
        x.start();
        x.step();
        DUE.is("a start forgets crashes", x.asking(0, 0), 0);
    }

    private static void crashBeforeStart() {
        DUE.of("A crash. Answers whether a crawl has started.");
        Finder x = new Finder();
        Due.seed(x, "http://a/");
        DUE.is("before", x.crash(), false);
        DUE.is("clock", x.clock(), -1);
        x.start();
        DUE.is("behind", x.crash(), true);
        x.run(9);
        DUE.is("when nothing waits", x.crash(), true);
        DUE.is("again", x.crash(), true);
    }

    private static void clocks() {
        DUE.of("The crawl's clock; NONE before one has started.");
        Finder x = new Finder();
        DUE.is("before", x.clock(), -1);
        Due.seed(x, "http://a/");
        DUE.is("before", x.clock(), -1);
        x.start();
        DUE.is("at its beginning", x.clock(), 0);
        x.step();
        DUE.is("behind a step", x.clock(), 1);
        x.step();
        DUE.is("behind none", x.clock(), 1);
        x.start();
        DUE.is("at the next beginning", x.clock(), 0);
    }

    private static void counts() {
        DUE.of("0 for 2 to 4 before a crawl has started; NONE for another what.");
        Finder x = new Finder();
        Due.page(x, 200, "http://a/", "<a href=1>");
        Due.seed(x, "http://a/");
        Due.seed(x, "http://b/");
        int[] before = {1, 2, 0, 0, 0};
        int[] behind = {1, 2, 3, 2, 1};
        for (int what = 0; what < 5; what++) {
            DUE.is("before: count " + what, x.count(what), before[what]);
        }
        for (int what : new int[] {-1, 5, 6, LEAST, MOST}) {
            DUE.is("before: count " + what, x.count(what), -1);
        }
        x.start();
        x.step();
        for (int what = 0; what < 5; what++) {
            DUE.is("behind: count " + what, x.count(what), behind[what]);
        }
        for (int what : new int[] {-1, 5, 6, LEAST, MOST}) {
            DUE.is("behind: count " + what, x.count(what), -1);
        }
    }

    private static void knownNone() {
        DUE.of("NONE when there is none such.");
        Finder x = row(1, false);
        for (int what = -1; what < 5; what++) {
            DUE.is("before a crawl: known 0 " + what, x.known(0, what), -1);
        }
        x.start();
        x.step();
        for (int what = 0; what < 4; what++) {
            for (int i : new int[] {-1, 2, 250, LEAST, MOST}) {
                DUE.is("known " + i + " " + what, x.known(i, what), -1);
            }
        }
        for (int what : new int[] {-1, 4, 5, LEAST, MOST}) {
            DUE.is("known 0 " + what, x.known(0, what), -1);
            DUE.is("known 1 " + what, x.known(1, what), -1);
        }
        DUE.is("the first", x.known(0, 0), 2);
        DUE.is("the last", x.known(1, 0), 1);
        DUE.is("the last's depth", x.known(1, 1), 1);
        DUE.is("the last's chain", x.known(1, 2), 0);
    }

    private static void leadNumbers() {
        DUE.of("what is known, with all that is said of it, is saved");
        Finder x = row(3, true);
        x.set(3, 2);
        x.start();
        x.run(3);
        DUE.is("leads on", x.known(2, 3), 3);
        x.crash();
        DUE.is("saved as leading on", x.known(0, 3), 1);
        DUE.is("saved as leading on", x.known(1, 3), 2);
        DUE.is("saved as waiting", x.known(2, 0), 1);
        DUE.is("and as leading on to none", x.known(2, 3), -1);
        DUE.is("with its depth", x.known(2, 1), 0);
        DUE.is("with its chain", x.known(2, 2), 2);
        DUE.is("one that is known no more", x.known(3, 0), -1);
    }

    private static void askings() {
        DUE.of("1 how many bytes the address has that was asked for, which is the product then (what = 0 leaves the "
            + "product); NONE when there is none such.");
        Finder x = row(1, false);
        Due.read(x, "http://h/", "x");
        DUE.is("before a crawl", x.asking(0, 0), -1);
        DUE.is("before a crawl", x.asking(0, 1), -1);
        x.start();
        DUE.is("before the first", x.asking(0, 0), -1);
        DUE.is("before the first", x.asking(0, 1), -1);
        x.run(2);
        DUE.is("clock of the last", x.asking(1, 0), 2);
        DUE.is("clock of the first", x.asking(0, 0), 0);
        for (int what : new int[] {0, 1}) {
            for (int k : new int[] {-1, 2, 999, 1000, LEAST, MOST}) {
                DUE.is("asking " + k + " " + what, x.asking(k, what), -1);
            }
        }
        for (int what : new int[] {-1, 2, LEAST, MOST}) {
            DUE.is("asking 0 " + what, x.asking(0, what), -1);
        }
        DUE.is("the product stays", Due.product(x), "http://h/x");
        DUE.is("bytes of the last", x.asking(1, 1), 10);
        DUE.is("the product", Due.product(x), "http://a/1");
    }

    private static void askingsFrom1000On() {
        DUE.of("The k-th asking since start, from 0 on, of the first 1000");
        Finder x = star();
        x.set(2, 0);
        x.set(3, 50);
        x.start();
        for (int i = 0; i < 20; i++) {
            x.run(49);
            x.crash();
        }
        x.run(20);
        DUE.is("askings", x.count(4), 1000);
        DUE.is("the last of the first 1000", x.asking(999, 0), 999);
        DUE.is("behind it", x.asking(1000, 0), -1);
        x.run(1);
        DUE.is("askings", x.count(4), 1001);
        DUE.is("one more is not told", x.asking(1000, 0), -1);
        DUE.is("one more is not told", x.asking(1000, 1), -1);
        DUE.is("the last of the first 1000", x.asking(999, 1), 11);
        DUE.is("the product", Due.product(x), "http://a/28");
        DUE.is("clock", x.clock(), 1001);
        x.start();
        x.step();
        DUE.is("from 0 on again", x.asking(0, 0), 0);
        DUE.is("from 0 on again", x.asking(1, 0), -1);
    }

    private static void addresses() {
        DUE.of("The product is a known address. Answers how many bytes it has; NONE when there is none such (the product "
            + "stays).");
        Finder x = row(1, false);
        Due.read(x, "http://h/", "x");
        DUE.is("before a crawl", x.address(0), -1);
        x.start();
        x.step();
        for (int i : new int[] {-1, 2, 250, LEAST, MOST}) {
            DUE.is("address " + i, x.address(i), -1);
        }
        DUE.is("the product stays", Due.product(x), "http://h/x");
        DUE.is("the last", x.address(1), 10);
        DUE.is("the product", Due.product(x), "http://a/1");
        DUE.is("the first", x.address(0), 10);
        DUE.is("the product", Due.product(x), "http://a/0");
    }
}
