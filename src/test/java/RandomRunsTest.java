import java.nio.charset.StandardCharsets;
import java.util.Random;

/** Random runs of calls, the same ones each time, on the program and on the model beside it. */
public final class RandomRunsTest {
    private static final Due DUE = new Due();

    private final Random random;
    private final Finder x = new Finder(Integer.MAX_VALUE);
    private final Model m = new Model();
    private final String name;

    private RandomRunsTest(long seed) {
        random = new Random(seed);
        name = "run " + seed + ": ";
    }

    public static void main(String[] args) {
        int runs = args.length > 0 ? Integer.parseInt(args[0]) : 600;
        int from = args.length > 1 ? Integer.parseInt(args[1]) : 0;
        for (int seed = from; seed < from + runs; seed++) {
            RandomRunsTest run = new RandomRunsTest(seed);
            run.go(seed % 6);
        }
        DUE.end("RandomRunsTest");
    }

    private void go(int kind) {
        switch (kind) {
            case 0:
                readAddresses();
                break;
            case 1:
                lookAtPages();
                break;
            case 2:
                obeyRules();
                break;
            case 3:
                crawl();
                break;
            case 4:
                crawlAgain();
                break;
            default:
                crawlFar();
                break;
        }
    }

    // ---- what is random

    private String one(String... of) {
        return of[random.nextInt(of.length)];
    }

    private boolean seldom(int of) {
        return random.nextInt(of) == 0;
    }

    private String several(int most, java.util.function.Supplier<String> part) {
        StringBuilder s = new StringBuilder();
        for (int n = random.nextInt(most + 1); n > 0; n--) {
            s.append(part.get());
        }
        return s.toString();
    }

    private String blanks() {
        return several(2, () -> one(" ", "\t", "\n", "\f", "\r"));
    }

    private String anyByte() {
        return "" + (char) random.nextInt(256);
    }

    private String segment() {
        return one("a", "b", "..", ".", "", "%2e", "%2E%2e", "%41", "%2f", "%7E", "c-d", "x:y", "...", "%zz", "%4", "q$",
            "p*p", ".a", "%25", "zzzzzzzzzzzzzzzzzzzzzzzzzzzzzz");
    }

    private String host() {
        return one("a", "B", "c.d", "e-f", "a:80", "a:080", "a:", "a:81", "a:0081", "a:0", "a:00000", "a:65535", "a:65536",
            "a:000080", "a:99999", "", "a_b", "a:8a", ":80", "a:80:80", "a%41",
            "hhhhhhhhhhhhhhhhhhhhhhhhhhhhhhhhhhhhhhhhhhhhhhhhhhhhhhhhhhhh", "hhhhhhhhhhhhhhhhhhhhhhhhhhhhhhhhhhhhhhhhhhhhhhhhhhhhhhhhhhhhh");
    }

    private String reference() {
        String s = one("http://" + host(), "HTTP://" + host(), "//" + host(), "", "", "", "/", "?", "http:", "x:", "https://a",
            "http:/", ":", "../", "./");
        s += several(9, () -> one("/", "/", "") + segment());
        s += seldom(3) ? "?" + several(3, () -> one("q", "/", "?", "=", "&", ":", "%3d", "%7a", "..")) : "";
        s += seldom(8) ? "#" + several(2, () -> one("f", "#", " ", "?")) : "";
        s = seldom(15) ? s + anyByte() : s;
        return seldom(5) ? blanks() + s + blanks() : s;
    }

    private String goodAddress() {
        return "http://" + one("a", "b", "c:8", "d") + "/" + one("", "a", "b", "c", "d", "e", "d/a", "d/b", "d/?q", "?");
    }

    private String relative() {
        return one("a", "b", "c", "d", "e", "/", "d/", "./a", "../b", "d/a", "/d/b", "", "#x", "?q", "//b/", "//b/a", "//c:8/b",
            "http://d/", "http://a/c", "x", "y", "//" + one("a", "b", "c:8") + "/" + (char) ('a' + random.nextInt(26)));
    }

    private String attribute() {
        String key = one("href", "HREF", "Href", "x", "=href", "hre", "href2");
        String value = seldom(3) ? several(3, () -> one("&amp;", "&#47;", "&#x61;", "a", "b", "&lt;", "&#10;", "/")) : relative();
        return key + one("=" + value, " = " + value, "=\"" + value + "\"", "='" + value + "'", "= \n'" + value + "'", "",
            "=\"" + value, "/=" + value, "=>");
    }

    private String tag() {
        String s = one("<", "<", "<", "</") + one("a", "A", "a", "base", "b", "script", "STYLE", "style", "a1", "scripts");
        s += several(3, () -> one(" ", "/", " \n", "\t") + attribute());
        return s + one(">", ">", ">", " >", "/>", "");
    }

    private String piece() {
        switch (random.nextInt(8)) {
            case 0:
            case 1:
            case 2:
                return tag();
            case 3:
                return one("<!--", "-->", "<!-->", "<!--->", "<!", "<?", "</", "<", ">", "<5", "</script", "</SCRIPT>", "</style/",
                    "</script\n", "--", "</>", "'", "\"");
            case 4:
                return one("&amp;", "&lt;", "&gt;", "&quot;", "&apos;", "&AMP;", "&amp", "&#65;", "&#x41;", "&#X5a;", "&#000065;",
                    "&#0000065;", "&#;", "&#x;", "&#x000041;", "&#x0000041;", "&#31;", "&#32;", "&#126;", "&#127;", "&#6a;",
                    "&#xg;", "&", "&&amp;amp;", "&#38;lt;", "&;", "&#", "&#99999999;", "&#X;", "&#xA;");
            case 5:
                return anyByte();
            default:
                return one("red", "Blue", "sky ", "tree", " ", "x9", "abcdefghijklmnopqrst", "abcdefghijklmnopqrstuvwxyz", "\n");
        }
    }

    private String link() {
        return "<a href=" + relative() + ">";
    }

    private String word() {
        return one("red ", "blue ", "sky ", "tree ", "Red,", "one ");
    }

    private String smallPage() {
        return (seldom(9) ? "<base href=" + relative() + ">" : "") + several(6, () -> one(link(), link(), word(), word()))
            + (seldom(6) ? several(6, this::piece) : "") + (seldom(12) ? several(70, this::link) : "");
    }

    private String pattern() {
        return several(4, () -> one("/", "a", "b", "*", "$", "?", "%61", "%2f", "d", "q", "/", "%", "**"));
    }

    private String ruleLine() {
        String key = one("user-agent", "User-Agent", "allow", "Disallow", "disallow", "ALLOW", "sitemap", "", " allow ", "x");
        String value = low(key).contains("agent") ? one("*", "finder", "FINDER ", "z", "find", "finder/1", "* # c") : pattern();
        return key + one(":", ": ", " : ", ":\t", "", ":") + value + one("", "", "", " # x", "#", "\r", " ") + "\n";
    }

    private static String low(String s) {
        return s.toLowerCase(java.util.Locale.ROOT);
    }

    // ---- runs

    private void tape(String s) {
        byte[] bytes = s.getBytes(StandardCharsets.ISO_8859_1);
        int length = Math.min(bytes.length, 7900);
        m.tape.append(s, 0, length);
        Due.tape(x, s.substring(0, length));
    }

    private void same(String call, long got, long want) {
        DUE.is(name + call, got, want);
    }

    private void sameProduct(String call) {
        DUE.is(name + call, Due.product(x), m.product);
    }

    private void readAddresses() {
        for (int i = 0; i < 60; i++) {
            String s = (seldom(3) ? reference() : goodAddress()) + one("\n", "\n", "\r\n", "") + reference();
            tape(s);
            same("read " + s, x.read(), m.read());
            sameProduct("read " + s);
        }
    }

    private void lookAtPages() {
        for (int i = 0; i < 40; i++) {
            String s = (seldom(10) ? reference() : goodAddress()) + "\n" + several(seldom(4) ? 80 : 14, this::piece);
            for (int what = seldom(9) ? 2 : 0; what < 3; what++) {
                tape(s);
                same("look " + what + " " + s, x.look(what), m.look(what));
                sameProduct("look " + what + " " + s);
            }
        }
    }

    private void obeyRules() {
        for (int i = 0; i < 30; i++) {
            String s = (seldom(3) ? reference() : goodAddress()) + "\n" + several(10, this::ruleLine);
            tape(s);
            same("rules " + s, x.rules(), m.rules());
            for (int k = 0; k < 8; k++) {
                String address = seldom(4) ? reference() : goodAddress() + several(4, () -> one("a", "b", "/", "q", "d", "?", "$", "*"));
                tape(address);
                same("allowed " + address + " by " + s, x.allowed(), m.allowed());
            }
        }
    }

    private void tellPage() {
        String s = goodAddress() + "\n";
        int status = Integer.parseInt(one("200", "200", "200", "200", "301", "302", "399", "300", "404", "99", "600", "100", "599"));
        s += status / 100 == 3 ? relative() + one("", "\n", "\r\nmore", "\nx") : smallPage();
        tape(s);
        same("page " + status + " " + s, x.page(status), m.page(status));
    }

    private void crawl() {
        int pages = 5 + random.nextInt(40);
        String copied = smallPage();
        for (int i = 0; i < pages; i++) {
            if (seldom(5)) {
                tape(goodAddress() + "\n" + copied);
                same("page of a copy", x.page(200), m.page(200));
            } else {
                tellPage();
            }
        }
        for (int i = 0; i < 100; i++) {
            callOne();
            if (i % 10 == 9) {
                sameState();
            }
        }
        sameState();
    }

    /** Crawls one behind the other through a web that changes, so that less is known and found than before, too. */
    private void crawlAgain() {
        for (int i = 5 + random.nextInt(20); i > 0; i--) {
            tellPage();
        }
        for (int crawls = 0; crawls < 8; crawls++) {
            changeTheWeb();
            changeSeeds();
            same("start", x.start(), m.start());
            for (int parts = random.nextInt(6); parts > 0; parts--) {
                int most = random.nextInt(9);
                same("run " + most, x.run(most), m.run(most));
                if (seldom(3)) {
                    same("crash", x.crash() ? 1 : 0, m.crash() ? 1 : 0);
                }
                if (seldom(3)) {
                    changeTheWeb();
                }
            }
            findAll();
            sameState();
        }
    }

    private void changeTheWeb() {
        for (int changes = random.nextInt(4); changes > 0; changes--) {
            if (seldom(3)) {
                tape(goodAddress());
                same("drop", x.drop() ? 1 : 0, m.drop() ? 1 : 0);
            } else {
                tellPage();
            }
        }
        if (seldom(6)) {
            tape(goodAddress() + "\nuser-agent: *\n" + several(2, this::ruleLine));
            same("rules", x.rules(), m.rules());
        }
        if (seldom(3)) {
            int setting = random.nextInt(4);
            int value = random.nextInt(6);
            same("set", x.set(setting, value) ? 1 : 0, m.set(setting, value) ? 1 : 0);
        }
    }

    private void changeSeeds() {
        if (seldom(2)) {
            x.noSeeds();
            m.seeds.clear();
        }
        for (int more = 1 + random.nextInt(4); more > 0; more--) {
            tape(goodAddress());
            same("seed", x.seed(), m.seed());
        }
    }

    private void findAll() {
        same("run", x.run(1000), m.run(1000));
        int rounds = random.nextInt(seldom(3) ? 51 : 3);
        same("find " + rounds, x.find(rounds), m.find(rounds));
        for (int mode = 0; mode < 3; mode++) {
            tape(several(4, this::word));
            same("ask " + mode, x.ask(mode), m.ask(mode));
        }
    }

    /** So many links, and so long ones, that some go beyond what a crawl can know. */
    private void crawlFar() {
        int names = 100 + random.nextInt(500);
        String longName = "z".repeat(random.nextInt(170));
        int pages = 10 + random.nextInt(50);
        for (int i = 0; i < pages; i++) {
            boolean leads = seldom(4);
            String address = "http://" + one("a", "b.c", "d:8") + "/" + (seldom(2) ? random.nextInt(30) : random.nextInt(names));
            String text = leads ? farReference(names, longName)
                : several(65, () -> "<a href='" + farReference(names, longName) + "'>" + word());
            tape(address + "\n" + text);
            same("page " + address, x.page(leads ? 302 : 200), m.page(leads ? 302 : 200));
        }
        same("set", x.set(0, 20) ? 1 : 0, m.set(0, 20) ? 1 : 0);
        for (int i = 0; i < 5; i++) {
            tape("http://a/" + i);
            same("seed", x.seed(), m.seed());
        }
        same("start", x.start(), m.start());
        for (int parts = random.nextInt(9); parts > 0; parts--) {
            int most = random.nextInt(60);
            same("run " + most, x.run(most), m.run(most));
            same("crash", x.crash() ? 1 : 0, m.crash() ? 1 : 0);
        }
        sameState();
        findAll();
        sameState();
    }

    private String farReference(int names, String longName) {
        String s = one("", "", "//a", "//b.c", "//d:8", "//e") + "/" + (seldom(2) ? random.nextInt(30) : random.nextInt(names));
        return seldom(8) ? s + "/" + longName : s;
    }

    private void callOne() {
        switch (random.nextInt(16)) {
            case 0:
                tellPage();
                break;
            case 1:
                tape(goodAddress());
                same("drop", x.drop() ? 1 : 0, m.drop() ? 1 : 0);
                break;
            case 2:
                if (seldom(2)) {
                    tape(goodAddress() + "\nuser-agent: *\n" + several(2, this::ruleLine));
                    same("rules", x.rules(), m.rules());
                }
                break;
            case 3:
                int setting = random.nextInt(6) - 1;
                int value = seldom(4) ? random.nextInt(1100) - 5 : random.nextInt(8);
                same("set", x.set(setting, value) ? 1 : 0, m.set(setting, value) ? 1 : 0);
                break;
            case 4:
            case 5:
                tape(seldom(9) ? reference() : goodAddress());
                same("seed", x.seed(), m.seed());
                break;
            case 6:
                if (seldom(3)) {
                    x.noSeeds();
                    m.seeds.clear();
                } else {
                    same("start", x.start(), m.start());
                }
                break;
            case 7:
            case 8:
                same("step", x.step(), m.step());
                break;
            case 9:
            case 10:
                int most = seldom(2) ? 1000 : random.nextInt(7) - 1;
                same("run " + most, x.run(most), m.run(most));
                break;
            case 11:
                same("crash", x.crash() ? 1 : 0, m.crash() ? 1 : 0);
                break;
            case 12:
            case 13:
                int rounds = seldom(9) ? random.nextInt(60) - 5 : random.nextInt(51);
                same("find " + rounds, x.find(rounds), m.find(rounds));
                break;
            default:
                int mode = random.nextInt(seldom(5) ? 5 : 3);
                tape(several(seldom(5) ? 12 : 3, this::word));
                same("ask " + mode, x.ask(mode), m.ask(mode));
                break;
        }
    }

    private void sameState() {
        same("clock", x.clock(), m.started ? m.clock : -1);
        int[] counts = {m.pages.size(), m.seeds.size(), m.known.size(), m.waiting(), m.askClocks.size(), -1};
        for (int what = 0; what < counts.length; what++) {
            same("count " + what, x.count(what), counts[what]);
        }
        for (int i = 0; i <= m.known.size(); i++) {
            for (int what = 0; what < 5; what++) {
                same("known " + i + " " + what, x.known(i, what), m.known(i, what));
            }
            if (i < m.known.size()) {
                DUE.is(name + "address " + i, Due.address(x, i), m.known.get(i).address);
            }
        }
        for (int k = 0; k < m.askClocks.size(); k++) {
            same("asking " + k, x.asking(k, 0), k < 1000 ? m.askClocks.get(k) : -1);
            same("asking " + k, x.asking(k, 1), k < 1000 ? m.askAddresses.get(k).length() : -1);
            if (k < 1000) {
                DUE.is(name + "asking " + k, Due.product(x), m.askAddresses.get(k));
            }
        }
        for (int d = 0; d <= m.documents.size(); d++) {
            for (int what = 0; what < 7; what++) {
                same("document " + d + " " + what, x.document(d, what), m.document(d, what));
            }
            if (d < m.documents.size()) {
                same("where " + d, x.where(d), m.documents.get(d).address.length());
                DUE.is(name + "where " + d, Due.product(x), m.documents.get(d).address);
            }
        }
        for (int i = 0; i <= m.hits.size(); i++) {
            same("hit " + i, x.hit(i), i < m.hits.size() ? m.hits.get(i)[0] : -1);
            same("score " + i, x.score(i), i < m.hits.size() ? m.hits.get(i)[1] : -1);
        }
    }
}
