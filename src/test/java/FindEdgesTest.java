/** The edges of promises 22 to 27, and of FINDING. */
public final class FindEdgesTest {
    private static final Due DUE = new Due();
    private static final int LEAST = Integer.MIN_VALUE;
    private static final int MOST = Integer.MAX_VALUE;

    public static void main(String[] args) {
        rounds();
        noCrawl();
        someWait();
        refusedFindsLeaveAll();
        noDocuments();
        onlyThoseGot();
        copies();
        noCopies();
        moreThanSixty();
        twentySteps();
        comesToNone();
        leadsToOthers();
        leadsOnceToEach();
        leadsByTheDocumentsAddress();
        leadsByTheFirstSixty();
        ranks();
        ranksDownToWhole();
        ranksOfOne();
        documentsNone();
        whereNone();
        modes();
        noFindYet();
        eightWords();
        twentyBytes();
        wordsOfQuestions();
        noWords();
        any();
        all();
        rows();
        rowEnds();
        hitOrder();
        hitsNone();
        hitsEndWithFind();
        untilTheNextFind();
        findAgain();
        findFewer();
        greatScores();
        DUE.end("FindEdgesTest");
    }

    /** Names and texts of pages of http://a/, all of them seeds, and crawled. */
    private static Finder crawled(String... pages) {
        Finder x = new Finder();
        x.set(2, 0);
        for (int i = 0; i < pages.length; i += 2) {
            Due.page(x, 200, "http://a/" + pages[i], pages[i + 1]);
            Due.seed(x, "http://a/" + pages[i]);
        }
        x.start();
        x.run(1000);
        return x;
    }

    private static Finder found(String... pages) {
        Finder x = crawled(pages);
        x.find(0);
        return x;
    }

    private static String told(Finder x, int d) {
        StringBuilder text = new StringBuilder();
        for (int what = 0; what < 6; what++) {
            text.append(x.document(d, what)).append(' ');
        }
        return text.toString();
    }

    private static String hits(Finder x) {
        StringBuilder text = new StringBuilder();
        for (int i = 0; x.hit(i) != Finder.NONE; i++) {
            text.append(x.hit(i)).append(':').append(x.score(i)).append(' ');
        }
        return text.toString();
    }

    private static void asks(Finder x, int mode, String question, String want) {
        int hits = Due.ask(x, mode, question);
        DUE.is("hits in mode " + mode + " of " + question, hits(x), want);
        DUE.is("how many", hits, want.isEmpty() ? 0 : want.split(" ").length);
    }

    private static void rounds() {
        DUE.of("Documents of what the crawl knows, with ranks of so many rounds, 0 .. 50.");
        Finder x = crawled("a", "red <a href=b>", "b", "red <a href=a>");
        for (int rounds : new int[] {0, 1, 49, 50}) {
            DUE.is("find " + rounds, x.find(rounds), 2);
            // 75000 and 85 of 100 of what the other one has: that is 500000 again.
            DUE.is("rank", x.document(0, 1), 500000);
        }
        for (int rounds : new int[] {-1, 51, 52, LEAST, MOST}) {
            DUE.is("find " + rounds, x.find(rounds), -1);
        }
    }

    private static void noCrawl() {
        DUE.of("NONE when no crawl has started, some address waits, or rounds are not such (what was found before stays).");
        Finder x = new Finder();
        Due.page(x, 200, "http://a/", "red");
        Due.seed(x, "http://a/");
        for (int rounds : new int[] {-1, 0, 50, 51}) {
            DUE.is("find " + rounds, x.find(rounds), -1);
        }
        DUE.is("no documents", x.document(0, 0), -1);
    }

    private static void someWait() {
        DUE.of("When a crawl has started and nothing waits, its DOCUMENTS are the addresses got");
        Finder x = crawled("a", "red", "b", "blue");
        x.start();
        DUE.is("two wait", x.find(0), -1);
        x.step();
        DUE.is("one waits", x.find(0), -1);
        x.step();
        DUE.is("none waits", x.find(0), 2);
        x.crash();
        DUE.is("two wait again", x.find(0), -1);
        x.run(2);
        DUE.is("none waits", x.find(0), 2);
    }

    private static void refusedFindsLeaveAll() {
        DUE.of("(what was found before stays)");
        Finder x = found("a", "red", "b", "blue red");
        Due.ask(x, 0, "red");
        for (int rounds : new int[] {-1, 51}) {
            x.find(rounds);
            DUE.is("documents", told(x, 0), "0 500000 0 0 0 1 ");
            DUE.is("documents", told(x, 1), "1 500000 0 0 0 2 ");
            DUE.is("hits", hits(x), "0:500000 1:500000 ");
        }
        x.start();
        x.find(7);
        DUE.is("documents", told(x, 1), "1 500000 0 0 0 2 ");
        DUE.is("hits", hits(x), "0:500000 1:500000 ");
        asks(x, 0, "blue", "1:500000 ");
    }

    private static void noDocuments() {
        DUE.of("Answers how many documents there are");
        Finder x = new Finder();
        x.start();
        DUE.is("no seeds", x.find(0), 0);
        DUE.is("no seeds", x.find(50), 0);
        Due.seed(x, "http://a/");
        x.start();
        x.run(9);
        DUE.is("none got", x.find(50), 0);
        DUE.is("document", x.document(0, 0), -1);
        DUE.is("where", x.where(0), -1);
        for (int mode = 0; mode < 3; mode++) {
            asks(x, mode, "red", "");
        }
    }

    private static void onlyThoseGot() {
        DUE.of("its DOCUMENTS are the addresses got");
        Finder x = new Finder();
        Due.page(x, 200, "http://a/1", "red");
        Due.page(x, 404, "http://a/2", "red 2");
        Due.page(x, 301, "http://a/3", "1");
        Due.page(x, 200, "http://a/4", "red 4");
        Due.rules(x, "http://a/", "user-agent: *\ndisallow: /4");
        for (int i = 1; i < 6; i++) {
            Due.seed(x, "http://a/" + i);
        }
        x.start();
        x.run(9);
        DUE.is("states", Due.states(x), "2 5 3 4 5 ");
        DUE.is("find", x.find(0), 1);
        DUE.is("document", told(x, 0), "0 1000000 0 0 0 1 ");
        asks(x, 0, "red", "0:1000000 ");
    }

    private static void copies() {
        DUE.of("but of those that were got with the same text just the first in ORDER, numbered from 0 on in ORDER; the "
            + "others are COPIES of it.");
        Finder x = found("d", "x", "c", "", "b", "x", "a", "", "e", "x", "f", "y");
        DUE.is("a with c, of an empty text", told(x, 0), "3 333333 0 0 1 0 ");
        DUE.is("b with d and e", told(x, 1), "2 333333 0 0 2 1 ");
        DUE.is("f", told(x, 2), "5 333333 0 0 0 1 ");
        DUE.is("behind the last", told(x, 3), "-1 -1 -1 -1 -1 -1 ");
        x.where(1);
        DUE.is("where", Due.product(x), "http://a/b");
        asks(x, 0, "x", "1:333333 ");
    }

    private static void noCopies() {
        DUE.of("of those that were got with the same text");
        Finder x = found("a", "red", "b", "Red", "c", "red ", "d", " red", "e", "re", "f", "rec", "g", "red\u0000",
            "h", "\u00f2ed");
        for (int d = 0; d < 8; d++) {
            DUE.is("copies of " + d, x.document(d, 4), 0);
        }
        DUE.is("behind the last", x.document(8, 4), -1);
    }

    private static void moreThanSixty() {
        DUE.of("its DOCUMENTS are the addresses got");
        Finder x = new Finder();
        StringBuilder hub = new StringBuilder();
        for (int i = 10; i < 70; i++) {
            hub.append("<a href=").append(i).append('>');
        }
        Due.page(x, 200, "http://a/", hub.toString());
        for (int i = 10; i < 69; i++) {
            Due.page(x, 200, "http://a/" + i, "" + i);
        }
        DUE.is("pages", x.count(0), 60);
        Due.seed(x, "http://a/");
        x.set(2, 0);
        x.start();
        x.run(60);
        Due.drop(x, "http://a/10");
        Due.page(x, 200, "http://a/69", "69");
        x.run(60);
        DUE.is("find", x.find(1), 61);
        DUE.is("the hub leads to all others", x.document(0, 2), 60);
        // 150000 / 61, and 85 * (1000000 / 61) / 100 / 60.
        DUE.is("rank of the last", x.document(60, 1), 2459 + 232);
        DUE.is("the one that went", x.document(1, 5), 1);
        Due.ask(x, 0, "10");
        DUE.is("is found all the same", x.hit(0), 1);
    }

    /** A chain of 21 that lead on; it is too long for its first one, and not for its second. */
    private static void twentySteps() {
        DUE.of("(if it is known, and by 20 steps at most, the one from the address itself counted)");
        Finder x = new Finder();
        StringBuilder hub = new StringBuilder();
        for (char name = 'A'; name <= 'U'; name++) {
            hub.append("<a href=").append(name).append('>');
            Due.page(x, 302, "http://a/" + name, name == 'U' ? "end" : "" + (char) (name + 1));
        }
        Due.page(x, 200, "http://a/end", "end");
        Due.page(x, 200, "http://a/hub", hub.toString());
        String[] seeds = {"hub", "s", "t", "u", "v"};
        String[] links = {"", "A", "B", "U", "end"};
        Due.seed(x, "http://a/hub");
        for (int i = 1; i < seeds.length; i++) {
            Due.page(x, 200, "http://a/" + seeds[i], "<a href=" + links[i] + ">");
            Due.seed(x, "http://a/" + seeds[i]);
        }
        x.start();
        x.run(1000);
        DUE.is("find", x.find(0), 6);
        DUE.is("s by 21 steps", x.document(2, 2), 0);
        DUE.is("t by 20 steps", x.document(3, 2), 1);
        DUE.is("u by one", x.document(4, 2), 1);
        DUE.is("v by none", x.document(5, 2), 1);
        DUE.is("end: from hub, t, u, v", x.document(0, 3), 4);
    }

    private static void comesToNone() {
        DUE.of("one that leads on to where that comes which it leads on to");
        Finder x = new Finder();
        Due.page(x, 200, "http://a/", "<a href=loop><a href=one><a href=gone><a href=no><a href=lost><a href=none>");
        Due.page(x, 301, "http://a/loop", "loop");
        Due.page(x, 301, "http://a/one", "two");
        Due.page(x, 301, "http://a/two", "one");
        Due.page(x, 301, "http://a/gone", "failed");
        Due.page(x, 301, "http://a/lost", "no");
        Due.page(x, 200, "http://a/no", "x");
        Due.rules(x, "http://a/", "user-agent: *\ndisallow: /no$");
        Due.page(x, 200, "http://a/z", "<a href=back>");
        Due.page(x, 301, "http://a/back", "/");
        Due.seed(x, "http://a/");
        Due.seed(x, "http://a/z");
        x.start();
        x.run(1000);
        DUE.is("find", x.find(0), 2);
        DUE.is("what comes to none leads to none", x.document(0, 2), 0);
        DUE.is("z comes to the first by back", x.document(1, 2), 1);
        DUE.is("which is led to", x.document(0, 3), 1);
    }

    private static void leadsToOthers() {
        DUE.of("A document LEADS TO those others to which the links of its text (read as a page of its address) come.");
        Finder x = new Finder();
        Due.page(x, 200, "http://a/1", "<a href=1><a href=r><a href=2><a href=3><a href=s><a href=2?>");
        Due.page(x, 301, "http://a/r", "1");
        Due.page(x, 301, "http://a/s", "2");
        Due.page(x, 200, "http://a/2", "x");
        Due.page(x, 200, "http://a/3", "x");
        Due.page(x, 200, "http://a/4", "<a href=/5>");
        Due.page(x, 200, "http://a/5", "<a href=/5>");
        Due.seed(x, "http://a/1");
        Due.seed(x, "http://a/4");
        x.start();
        x.run(1000);
        DUE.is("find", x.find(1), 3);
        DUE.is("1: not to itself, and once to 2", told(x, 0), "0 50000 1 0 0 0 ");
        DUE.is("2, of which 3 is a copy", x.document(1, 3), 1);
        DUE.is("rank of 2: all of what 1 gives", x.document(1, 1), 50000 + 283333);
        DUE.is("4: not to its own copy", x.document(2, 2), 0);
        DUE.is("4: not led to by its own copy", x.document(2, 3), 0);
    }

    private static void leadsOnceToEach() {
        DUE.of("A document LEADS TO those others to which the links of its text (read as a page of its address) come.");
        Finder x = found("a/1", "<a href=2><a href=3><a href=4>", "a/2", "x<a href=1><a href=3><a href=4>",
            "a/3", "y<a href=1><a href=2>", "a/4", "y<a href=1><a href=2>");
        DUE.is("1, to 2 and once to 3", told(x, 0), "0 333333 2 2 0 0 ");
        DUE.is("2, to 1 and once to 3", told(x, 1), "1 333333 2 2 0 1 ");
        DUE.is("3, of which 4 is a copy", told(x, 2), "2 333333 2 2 1 1 ");
    }

    private static void leadsByTheDocumentsAddress() {
        DUE.of("the links of its text (read as a page of its address)");
        Finder x = found("d/a", "<a href=x>", "e/a", "<a href=x>", "d/x", "dx", "e/x", "ex");
        DUE.is("d/a", told(x, 0), "0 333333 1 0 1 0 ");
        DUE.is("d/x is led to", x.document(1, 3), 1);
        DUE.is("e/x is not: e/a is a copy", x.document(2, 3), 0);
    }

    private static void leadsByTheFirstSixty() {
        DUE.of("each once, where it came first; the first 60 of these.");
        StringBuilder text = new StringBuilder();
        for (int i = 10; i < 69; i++) {
            text.append("<a href=").append(i).append('>');
        }
        Finder x = found("a", text + "<a href=b><a href=c>", "b", "1", "c", "2");
        DUE.is("b is the 60th", x.document(1, 3), 1);
        DUE.is("c is the 61st", x.document(2, 3), 0);
    }

    private static void ranks() {
        DUE.of("RANKS: at first 1000000 over how many documents there are; each ROUND, of all at once");
        Finder x = crawled("a", "<a href=b>", "b", "<a href=c>", "c", "");
        int[][] due = {{333333, 333333, 333333}, {50000, 333333, 333333}, {50000, 92500, 333333}, {50000, 92500, 128625},
            {50000, 92500, 128625}};
        for (int rounds = 0; rounds < due.length; rounds++) {
            x.find(rounds);
            for (int d = 0; d < 3; d++) {
                DUE.is("rank of " + d + " behind " + rounds, x.document(d, 1), due[rounds][d]);
            }
        }
        x.find(50);
        DUE.is("behind 50", x.document(2, 1), 128625);
        x.find(0);
        DUE.is("behind 0 again", x.document(2, 1), 333333);
    }

    private static void ranksDownToWhole() {
        DUE.of("(Each 'over' down to a whole number.)");
        Finder x = crawled("a", "<a href=b><a href=c><a href=d>", "b", "<a href=a><a href=c><a href=d>1", "c",
            "<a href=b><a href=d>2", "d", "3", "e", "<a href=d>4", "f", "<a href=d>5", "g", "<a href=d>6");
        x.find(0);
        DUE.is("1000000 over 7", x.document(0, 1), 142857);
        x.find(1);
        // 85 * 142857 / 100 is 121428; over 3 that is 40476, over 2 it is 60714; 150000 over 7 is 21428.
        DUE.is("a", x.document(0, 1), 21428 + 40476);
        DUE.is("b", x.document(1, 1), 21428 + 40476 + 60714);
        DUE.is("c", x.document(2, 1), 21428 + 2 * 40476);
        DUE.is("d", x.document(3, 1), 21428 + 2 * 40476 + 60714 + 3 * 121428);
        DUE.is("e", x.document(4, 1), 21428);
        x.find(2);
        // Of a 52618, of b 104225, of c 87023; over 3, 3 and 2 that is 17539, 34741 and 43511; of e, f and g 18213.
        DUE.is("a", x.document(0, 1), 21428 + 34741);
        DUE.is("b", x.document(1, 1), 21428 + 17539 + 43511);
        DUE.is("c", x.document(2, 1), 21428 + 17539 + 34741);
        DUE.is("d", x.document(3, 1), 21428 + 17539 + 34741 + 43511 + 3 * 18213);
    }

    private static void ranksOfOne() {
        DUE.of("1000000 over how many documents there are");
        Finder x = crawled("a", "<a href=a>");
        DUE.is("find", x.find(0), 1);
        DUE.is("at first", x.document(0, 1), 1000000);
        x.find(1);
        DUE.is("behind 1", x.document(0, 1), 150000);
        x.find(50);
        DUE.is("behind 50", x.document(0, 1), 150000);
    }

    private static void documentsNone() {
        DUE.of("5 how many words it has; NONE when there is none such.");
        Finder x = crawled("a", "red blue red", "b", "");
        DUE.is("before find", told(x, 0), "-1 -1 -1 -1 -1 -1 ");
        x.find(0);
        DUE.is("the first", told(x, 0), "0 500000 0 0 0 3 ");
        DUE.is("the last", told(x, 1), "1 500000 0 0 0 0 ");
        for (int d : new int[] {-1, 2, 250, LEAST, MOST}) {
            DUE.is("document " + d, told(x, d), "-1 -1 -1 -1 -1 -1 ");
        }
        for (int what : new int[] {-1, 6, LEAST, MOST}) {
            DUE.is("what " + what, x.document(0, what), -1);
            DUE.is("what " + what, x.document(1, what), -1);
        }
    }

    private static void whereNone() {
        DUE.of("The product is a document's address. Answers how many bytes it has; NONE when there is none such (the "
            + "product stays).");
        Finder x = crawled("b", "red", "a", "blue");
        Due.read(x, "http://h/", "x");
        DUE.is("before find", x.where(0), -1);
        x.find(0);
        for (int d : new int[] {-1, 2, 250, LEAST, MOST}) {
            DUE.is("where " + d, x.where(d), -1);
        }
        DUE.is("the product stays", Due.product(x), "http://h/x");
        DUE.is("the last", x.where(1), 10);
        DUE.is("the product", Due.product(x), "http://a/b");
        DUE.is("the first", x.where(0), 10);
        DUE.is("the product", Due.product(x), "http://a/a");
    }

    private static void modes() {
        DUE.of("NONE when the mode is not 0 .. 2 (the hits of before stay).");
        Finder x = found("a", "red", "b", "blue red");
        asks(x, 1, "blue red", "1:1000000 ");
        for (int mode : new int[] {-1, 3, LEAST, MOST}) {
            DUE.is("mode " + mode, Due.ask(x, mode, "red"), -1);
            DUE.is("the tape", x.end(0), 0);
            DUE.is("the hits of before", hits(x), "1:1000000 ");
        }
        asks(x, 0, "red", "0:500000 1:500000 ");
        asks(x, 2, "red", "0:500000 1:500000 ");
    }

    private static void noFindYet() {
        DUE.of("Answers how many hits there are (0 before find())");
        Finder x = new Finder();
        for (int mode = 0; mode < 3; mode++) {
            DUE.is("a new object", Due.ask(x, mode, "red"), 0);
            DUE.is("the tape", x.end(0), 0);
        }
        DUE.is("mode 3", Due.ask(x, 3, "red"), -1);
        x = crawled("a", "red");
        DUE.is("a crawl, not found yet", Due.ask(x, 0, "red"), 0);
        DUE.is("hit", x.hit(0), -1);
        x.find(51);
        DUE.is("a find that is NONE", Due.ask(x, 0, "red"), 0);
        x.find(50);
        DUE.is("the hits of before are none", x.hit(0), -1);
        DUE.is("found", Due.ask(x, 0, "red"), 1);
    }

    private static void eightWords() {
        DUE.of("Its words are rows of letters and digits, as above (nothing else in it means anything), the first 8 of "
            + "them.");
        Finder x = found("a", "1 2 3 4 5 6 7 8 9");
        asks(x, 0, "x x x x x x x 8", "0:1000000 ");
        asks(x, 0, "x x x x x x x x 9", "");
        asks(x, 1, "1 2 3 4 5 6 7 8", "0:8000000 ");
        asks(x, 1, "1 2 3 4 5 6 7 8 x", "0:8000000 ");
        asks(x, 1, "1 2 3 4 5 6 7 x 8", "");
        asks(x, 2, "1 2 3 4 5 6 7 8", "0:1000000 ");
        asks(x, 2, "1 2 3 4 5 6 7 8 x", "0:1000000 ");
        asks(x, 2, "2 3 4 5 6 7 8 9", "0:1000000 ");
        asks(x, 2, "3 4 5 6 7 8 9 10", "");
        asks(x, 0, "1 1 1 1 1 1 1 1", "0:1000000 ");
    }

    private static void twentyBytes() {
        DUE.of("of each the first 20 bytes count.");
        String twenty = "abcdefghij0123456789";
        Finder x = found("a", twenty + "xyz", "b", twenty, "c", twenty.substring(1));
        asks(x, 0, twenty, "0:333333 1:333333 ");
        asks(x, 0, twenty + "q", "0:333333 1:333333 ");
        asks(x, 0, twenty.substring(0, 19), "");
        asks(x, 0, twenty.substring(1), "2:333333 ");
        asks(x, 0, "x" + twenty, "");
    }

    private static void wordsOfQuestions() {
        DUE.of("(nothing else in it means anything)");
        Finder x = found("a", "red blue", "b", "amp lt 65 b a href red");
        asks(x, 2, "<b>", "1:500000 ");
        asks(x, 2, "&amp;&lt;&#65;", "1:500000 ");
        asks(x, 2, "<a href='red'>", "1:500000 ");
        asks(x, 0, "<!-- blue -->", "0:500000 ");
        asks(x, 0, "&#98;lue", "");
        asks(x, 2, "RED\u0000Blue", "0:500000 ");
        asks(x, 2, "\n\nred\r\nblue\n", "0:500000 ");
        asks(x, 0, "re d", "");
        asks(x, 0, "redblue", "");
        asks(x, 0, "\"red blue\" -blue", "0:1000000 1:500000 ");
    }

    private static void noWords() {
        DUE.of("(A question without words finds nothing.)");
        Finder x = found("a", "red", "b", "");
        for (int mode = 0; mode < 3; mode++) {
            Due.ask(x, 0, "red");
            DUE.is("no bytes", x.ask(mode), 0);
            DUE.is("no hits", x.hit(0), -1);
            asks(x, mode, " \n<>&;.-\u00e9\u0000", "");
        }
    }

    private static void any() {
        DUE.of("0 ANY: a document is found when it has one of them, its COUNT is how many of its places have one");
        Finder x = found("a", "red blue red", "b", "green", "c", "blue", "d", "");
        asks(x, 0, "red", "0:500000 ");
        asks(x, 0, "red blue", "0:750000 2:250000 ");
        asks(x, 0, "red red", "0:500000 ");
        asks(x, 0, "x green", "1:250000 ");
        asks(x, 0, "x", "");
    }

    private static void all() {
        DUE.of("1 ALL: likewise, when it has each of them");
        Finder x = found("a", "red blue red", "b", "red", "c", "blue red x");
        asks(x, 1, "red", "0:666666 1:333333 2:333333 ");
        asks(x, 1, "red blue", "0:999999 2:666666 ");
        asks(x, 1, "red blue x", "2:999999 ");
        asks(x, 1, "red blue y", "");
        asks(x, 1, "red red", "0:666666 1:333333 2:333333 ");
        asks(x, 1, "y", "");
    }

    private static void rows() {
        DUE.of("2 ROW: its count is at how many places the words stand, all of them, one behind the other, in the "
            + "question's order; found when that is not 0.");
        Finder x = found("a", "red blue red blue red", "b", "blue<b>red", "c", "red x blue");
        asks(x, 2, "red blue", "0:666666 ");
        asks(x, 2, "blue red", "0:666666 1:333333 ");
        asks(x, 2, "red blue red", "0:666666 ");
        asks(x, 2, "red red", "");
        asks(x, 2, "red", "0:999999 1:333333 2:333333 ");
        asks(x, 2, "red x blue", "2:333333 ");
        asks(x, 2, "blue x red", "");
    }

    private static void rowEnds() {
        DUE.of("at how many places the words stand, all of them, one behind the other");
        Finder x = found("a", "red blue", "b", "green red", "c", "", "d", "blue");
        asks(x, 2, "red blue", "0:250000 ");
        asks(x, 2, "red blue green", "");
        asks(x, 2, "blue green", "");
        asks(x, 2, "red blue blue", "");
        asks(x, 2, "blue x", "");
        asks(x, 2, "green red", "1:250000 ");
    }

    private static void hitOrder() {
        DUE.of("HITS are the documents found, the greatest score first, of these the least number.");
        Finder x = found("d", "x x", "c", "x", "b", "x x x", "a", "x,", "e", "x x ", "f", "x.");
        asks(x, 0, "x", "1:499998 3:333332 4:333332 0:166666 2:166666 5:166666 ");
        x = crawled("a", "x x", "b", "x <a href=c>", "c", "x ");
        x.find(1);
        asks(x, 0, "x", "2:333333 0:100000 1:50000 ");
        x.find(0);
        asks(x, 0, "x", "0:666666 1:333333 2:333333 ");
    }

    private static void hitsNone() {
        DUE.of("The document of the i-th hit, from 0 on; NONE when there is none such.");
        Finder x = new Finder();
        DUE.is("a new object", x.hit(0), -1);
        DUE.is("a new object", x.score(0), -1L);
        x = found("a", "red", "b", "blue red");
        Due.ask(x, 0, "red");
        DUE.is("the first", x.hit(0), 0);
        DUE.is("the last", x.hit(1), 1);
        DUE.is("the last", x.score(1), 500000L);
        for (int i : new int[] {-1, 2, 250, LEAST, MOST}) {
            DUE.is("hit " + i, x.hit(i), -1);
        }
        DUE.of("Its score; NONE likewise.");
        for (int i : new int[] {-1, 2, 250, LEAST, MOST}) {
            DUE.is("score " + i, x.score(i), -1L);
        }
    }

    private static void hitsEndWithFind() {
        DUE.of("(There are none before ask(), and again behind each find() that is not NONE.)");
        Finder x = found("a", "red");
        DUE.is("before ask", x.hit(0), -1);
        DUE.is("before ask", x.score(0), -1L);
        Due.ask(x, 0, "red");
        DUE.is("behind ask", x.hit(0), 0);
        x.find(-1);
        DUE.is("behind a find that is NONE", x.hit(0), 0);
        DUE.is("behind a find that is NONE", x.score(0), 1000000L);
        x.find(0);
        DUE.is("behind one that is not", x.hit(0), -1);
        DUE.is("behind one that is not", x.score(0), -1L);
        Due.ask(x, 0, "red");
        x.noSeeds();
        x.start();
        DUE.is("hits stay", x.hit(0), 0);
        DUE.is("a find of 0 documents", x.find(0), 0);
        DUE.is("ends them, too", x.hit(0), -1);
    }

    private static void untilTheNextFind() {
        DUE.of("Documents, ranks and hits are of this, until the next call that is not NONE, whatever comes.");
        Finder x = found("a", "red", "b", "blue <a href=a>");
        Due.ask(x, 0, "blue");
        Due.page(x, 200, "http://a/a", "green green");
        Due.drop(x, "http://a/b");
        Due.rules(x, "http://a/", "user-agent: *\ndisallow: /");
        x.set(0, 0);
        x.noSeeds();
        Due.seed(x, "http://a/new");
        x.crash();
        x.run(9);
        x.start();
        x.step();
        x.crash();
        DUE.is("documents", told(x, 0), "0 500000 0 1 0 1 ");
        DUE.is("documents", told(x, 1), "1 500000 1 0 0 1 ");
        x.where(1);
        DUE.is("addresses", Due.product(x), "http://a/b");
        DUE.is("hits", hits(x), "1:500000 ");
        asks(x, 0, "red", "0:500000 ");
        asks(x, 0, "green", "");
        DUE.is("one waits", x.find(0), -1);
        asks(x, 0, "red", "0:500000 ");
        x.run(9);
        DUE.is("the next one", x.find(0), 0);
        DUE.is("documents", x.document(0, 0), -1);
        asks(x, 0, "red", "");
    }

    private static void findFewer() {
        DUE.of("Documents, ranks and hits are of this, until the next call that is not NONE, whatever comes.");
        Finder x = crawled("a", "red", "b", "blue <a href=a>", "c", "green <a href=a>", "d", "green <a href=b>");
        DUE.is("find", x.find(2), 4);
        x.noSeeds();
        Due.seed(x, "http://a/a");
        Due.seed(x, "http://a/b");
        x.start();
        x.run(1000);
        DUE.is("find fewer", x.find(2), 2);
        DUE.is("a: c gives it nothing now", told(x, 0), "0 138750 0 1 0 1 ");
        DUE.is("b: d gives it nothing now", told(x, 1), "1 75000 1 0 0 1 ");
        DUE.is("c is none", told(x, 2), "-1 -1 -1 -1 -1 -1 ");
        asks(x, 0, "green blue", "1:75000 ");
    }

    private static void findAgain() {
        DUE.of("Documents of what the crawl knows");
        Finder x = crawled("a", "red <a href=b><a href=c>", "b", "blue", "c", "blue", "d", "<a href=b>");
        for (int times = 0; times < 3; times++) {
            DUE.is("find", x.find(0), 3);
            DUE.is("a", told(x, 0), "0 333333 1 0 0 1 ");
            DUE.is("b", told(x, 1), "1 333333 0 2 1 1 ");
            DUE.is("d", told(x, 2), "3 333333 1 0 0 0 ");
            asks(x, 0, "blue", "1:333333 ");
        }
        x.noSeeds();
        Due.seed(x, "http://a/b");
        x.start();
        x.run(9);
        DUE.is("less documents", x.find(0), 1);
        DUE.is("b", told(x, 0), "0 1000000 0 0 0 1 ");
        DUE.is("the others are none", x.document(1, 0), -1);
        asks(x, 0, "red", "");
        asks(x, 0, "blue", "0:1000000 ");
    }

    private static void greatScores() {
        DUE.of("Its SCORE is its count times its rank.");
        Finder x = found("a", "a ".repeat(3990));
        DUE.is("words", x.document(0, 5), 3990);
        asks(x, 0, "a", "0:3990000000 ");
        asks(x, 2, "a a a a a a a a", "0:3983000000 ");
    }
}
