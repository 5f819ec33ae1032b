/** Promises 22 to 27: find, document, where, ask, hit, score. */
public final class FindTest {
    private static final Due DUE = new Due();

    public static void main(String[] args) {
        refusals();
        copies();
        ranks();
        leadsByChains();
        leadsOncePerOther();
        modes();
        questions();
        hitOrder();
        staysWhateverComes();
        noDocuments();
        DUE.end("FindTest");
    }

    private static Finder crawled(String... pages) {
        Finder x = new Finder();
        x.set(2, 0);
        for (int i = 0; i < pages.length; i += 2) {
            Due.page(x, 200, "http://a/" + pages[i], pages[i + 1]);
            Due.seed(x, "http://a/" + pages[i]);
        }
        x.start();
        x.run(1000);
        return x;
    }

    /** What is told of a document, each with a blank behind it. */
    private static String told(Finder x, int d) {
        StringBuilder text = new StringBuilder();
        for (int what = 0; what < 6; what++) {
            text.append(x.document(d, what)).append(' ');
        }
        return text.toString();
    }

    /** Hits and their scores. */
    private static String hits(Finder x) {
        StringBuilder text = new StringBuilder();
        for (int i = 0; x.hit(i) != Finder.NONE; i++) {
            text.append(x.hit(i)).append(':').append(x.score(i)).append(' ');
        }
        return text.toString();
    }

    private static void refusals() {
        Finder x = new Finder();
        DUE.is("no crawl", x.find(0), -1);
        Due.page(x, 200, "http://a/", "red");
        Due.seed(x, "http://a/");
        x.start();
        DUE.is("one waits", x.find(0), -1);
        x.run(1);
        DUE.is("rounds -1", x.find(-1), -1);
        DUE.is("rounds 51", x.find(51), -1);
        DUE.is("nothing found yet", x.document(0, 0), -1);
        DUE.is("rounds 50", x.find(50), 1);
        Due.ask(x, 0, "red");
        DUE.is("rounds 51", x.find(51), -1);
        DUE.is("hits stay", hits(x), "0:150000 ");
        x.start();
        DUE.is("one waits", x.find(0), -1);
        DUE.is("documents stay", told(x, 0), "0 150000 0 0 0 1 ");
        DUE.is("hits stay", hits(x), "0:150000 ");
        Due.read(x, "http://h/", "x");
        DUE.is("document(-1, 0)", x.document(-1, 0), -1);
        DUE.is("document(1, 0)", x.document(1, 0), -1);
        DUE.is("document(0, -1)", x.document(0, -1), -1);
        DUE.is("document(0, 6)", x.document(0, 6), -1);
        DUE.is("where(-1)", x.where(-1), -1);
        DUE.is("where(1)", x.where(1), -1);
        DUE.is("the product stays", Due.product(x), "http://h/x");
        DUE.is("where(0)", x.where(0), 9);
        DUE.is("the product", Due.product(x), "http://a/");
    }

    private static void copies() {
        Finder x = crawled("z", "one", "c", "two", "b/", "one", "b", "one", "B", "three", "a", "two");
        DUE.is("find", x.find(0), 3);
        DUE.is("B", told(x, 0), "4 333333 0 0 0 1 ");
        DUE.is("a with c", told(x, 1), "5 333333 0 0 1 1 ");
        DUE.is("b with b/ and z", told(x, 2), "3 333333 0 0 2 1 ");
        x.where(2);
        DUE.is("b", Due.product(x), "http://a/b");
        x = crawled("a", "<a href=c>", "b", "<a href=d>x", "c", "y", "d", "y");
        DUE.is("find", x.find(0), 3);
        DUE.is("a leads to c", told(x, 0), "0 333333 1 0 0 0 ");
        DUE.is("b leads to d, which is a copy of c", told(x, 1), "1 333333 1 0 0 1 ");
        DUE.is("c", told(x, 2), "2 333333 0 2 1 1 ");
        x = crawled("d/a", "<a href=x>", "e/a", "<a href=x>", "d/x", "dx", "e/x", "ex");
        x.find(0);
        DUE.is("links are those of the document's address", x.document(0, 2), 1);
        DUE.is("d/x is led to", x.document(1, 3), 1);
        DUE.is("e/x is not", x.document(2, 3), 0);
    }

    private static void ranks() {
        Finder x = crawled("a", "<a href=b><a href=c>", "b", "<a href=c>1", "c", "<a href=a>2");
        DUE.is("find(0)", x.find(0), 3);
        DUE.is("a", x.document(0, 1), 333333);
        x.find(1);
        DUE.is("a: 50000 and 283333", x.document(0, 1), 333333);
        DUE.is("b: 50000 and 141666", x.document(1, 1), 191666);
        DUE.is("c: 50000, 141666 and 283333", x.document(2, 1), 474999);
        x.find(2);
        DUE.is("a: 50000 and 403749", x.document(0, 1), 453749);
        DUE.is("b: 50000 and 141666", x.document(1, 1), 191666);
        DUE.is("c: 50000, 141666 and 162916", x.document(2, 1), 354582);
        x = crawled("a", "", "b", "1", "c", "2", "d", "3", "e", "4", "f", "5", "g", "6");
        x.find(0);
        DUE.is("1000000 over 7", x.document(6, 1), 142857);
        x.find(50);
        DUE.is("150000 over 7", x.document(6, 1), 21428);
    }

    /** A chain of 21 that lead on, all linked by a hub; from its first one it is a step too far. */
    private static void leadsByChains() {
        Finder x = new Finder();
        StringBuilder hub = new StringBuilder();
        for (int i = 0; i <= 20; i++) {
            char name = (char) ('A' + i);
            hub.append("<a href=").append(name).append(">");
            Due.page(x, 302, "http://a/" + name, i == 20 ? "end" : "" + (char) (name + 1));
        }
        Due.page(x, 200, "http://a/end", "end");
        Due.page(x, 200, "http://a/hub", hub.toString());
        Due.page(x, 200, "http://a/s", "<a href=A>");
        Due.page(x, 200, "http://a/t", "<a href=B>");
        Due.page(x, 200, "http://a/u", "<a href=loop><a href=gone><a href=far>");
        Due.page(x, 302, "http://a/loop", "loop");
        for (String seed : new String[] {"hub", "s", "t", "u"}) {
            Due.seed(x, "http://a/" + seed);
        }
        x.start();
        x.run(1000);
        DUE.is("find", x.find(0), 5);
        DUE.is("end", x.document(0, 3), 2);
        DUE.is("hub", x.document(1, 2), 1);
        DUE.is("s, by 21 steps", x.document(2, 2), 0);
        DUE.is("t, by 20 steps", x.document(3, 2), 1);
        DUE.is("u", x.document(4, 2), 0);
    }

    private static void leadsOncePerOther() {
        Finder x = crawled("a", "<a href=a><a href=b><a href=c><a href=?x><a href=d>", "b", "same", "c", "same");
        DUE.is("find", x.find(1), 2);
        DUE.is("a", told(x, 0), "0 75000 1 0 0 0 ");
        DUE.is("b", told(x, 1), "1 500000 0 1 1 1 ");
        Finder deep = new Finder();
        Due.page(deep, 200, "http://a/", "<a href=b>");
        Due.page(deep, 200, "http://a/b", "<a href=c>");
        Due.page(deep, 200, "http://a/c", "");
        deep.set(0, 1);
        Due.seed(deep, "http://a/");
        deep.start();
        deep.run(9);
        DUE.is("find", deep.find(0), 2);
        DUE.is("c is not known", deep.document(1, 2), 0);
    }

    private static void modes() {
        Finder x = crawled("a", "red sky red", "b", "sky red tree sky red", "c", "tree", "d", "red red red");
        x.find(0);
        DUE.is("any", Due.ask(x, 0, "red"), 3);
        DUE.is("any", hits(x), "3:750000 0:500000 1:500000 ");
        DUE.is("any of two", Due.ask(x, 0, "sky tree"), 3);
        DUE.is("any of two", hits(x), "1:750000 0:250000 2:250000 ");
        DUE.is("all", Due.ask(x, 1, "sky red"), 2);
        DUE.is("all", hits(x), "1:1000000 0:750000 ");
        DUE.is("all", Due.ask(x, 1, "sky red tree"), 1);
        DUE.is("all, one that none has", Due.ask(x, 1, "sky blue"), 0);
        DUE.is("row", Due.ask(x, 2, "sky red"), 2);
        DUE.is("row", hits(x), "1:500000 0:250000 ");
        DUE.is("row over itself", Due.ask(x, 2, "red red"), 1);
        DUE.is("row over itself", hits(x), "3:500000 ");
        DUE.is("row in its order", Due.ask(x, 2, "tree red"), 0);
        DUE.is("row does not go on in the next document", Due.ask(x, 2, "red tree sky red tree"), 0);
        DUE.is("row of one", Due.ask(x, 2, "tree"), 2);
        DUE.is("a word twice", Due.ask(x, 1, "tree tree"), 2);
        DUE.is("a word twice", hits(x), "1:250000 2:250000 ");
        DUE.is("mode 3", Due.ask(x, 3, "red"), -1);
        DUE.is("the tape", x.end(0), 0);
        DUE.is("mode -1", Due.ask(x, -1, "red"), -1);
        DUE.is("hits stay", hits(x), "1:250000 2:250000 ");
        DUE.is("hit(-1)", x.hit(-1), -1);
        DUE.is("score(-1)", x.score(-1), -1L);
        DUE.is("score(2)", x.score(2), -1L);
    }

    private static void questions() {
        Finder x = crawled("a", "one two<b>three four five six seven eight nine abcdefghijklmnopqrstu", "b", "amp nine lt");
        x.find(0);
        for (int mode = 0; mode < 3; mode++) {
            DUE.is("no words", Due.ask(x, mode, " ,<>"), 0);
            DUE.is("no hits", x.hit(0), -1);
        }
        DUE.is("no bytes", x.ask(1), 0);
        DUE.is("eight words", Due.ask(x, 1, "one two three four five six seven eight blue"), 1);
        DUE.is("eight words in a row", Due.ask(x, 2, "ONE-Two\nthree four,five;six seven eight and"), 1);
        DUE.is("the ninth", Due.ask(x, 0, "a a a a a a a a nine"), 0);
        DUE.is("&amp; is a word", Due.ask(x, 2, "&amp;"), 1);
        DUE.is("tags are words", Due.ask(x, 0, "<lt>"), 1);
        DUE.is("20 bytes count", Due.ask(x, 0, "abcdefghijklmnopqrstXYZ"), 1);
        DUE.is("19 bytes", Due.ask(x, 0, "abcdefghijklmnopqrs"), 0);
        DUE.is("the tape", x.end(0), 0);
    }

    private static void hitOrder() {
        Finder x = crawled("a", "red", "b", "red <a href=c>", "c", "red red", "d", "red,");
        x.find(1);
        DUE.is("b's rank goes to c", x.document(2, 1), 250000);
        DUE.is("ask", Due.ask(x, 0, "red"), 4);
        DUE.is("hits", hits(x), "2:500000 0:37500 1:37500 3:37500 ");
        StringBuilder many = new StringBuilder();
        for (int i = 0; i < 3000; i++) {
            many.append("a ");
        }
        x = crawled("a", many.toString());
        x.find(0);
        DUE.is("ask", Due.ask(x, 0, "a"), 1);
        DUE.is("a score beyond an int", x.score(0), 3000000000L);
    }

    private static void staysWhateverComes() {
        Finder x = crawled("a", "red", "b", "blue");
        DUE.is("before find", Due.ask(x, 0, "red"), 0);
        x.find(0);
        Due.ask(x, 0, "red");
        DUE.is("hits", hits(x), "0:500000 ");
        Due.page(x, 200, "http://a/a", "green");
        Due.drop(x, "http://a/b");
        x.noSeeds();
        Due.seed(x, "http://c/");
        x.start();
        x.crash();
        DUE.is("documents stay", told(x, 1), "1 500000 0 0 0 1 ");
        x.where(1);
        DUE.is("their addresses stay", Due.product(x), "http://a/b");
        DUE.is("hits stay", hits(x), "0:500000 ");
        DUE.is("words stay", Due.ask(x, 0, "blue"), 1);
        x.step();
        DUE.is("find, of nothing", x.find(0), 0);
        DUE.is("no hits", x.hit(0), -1);
        DUE.is("no documents", x.document(0, 0), -1);
        DUE.is("ask", Due.ask(x, 0, "blue"), 0);
    }

    private static void noDocuments() {
        Finder x = new Finder();
        x.start();
        DUE.is("find", x.find(50), 0);
        DUE.is("ask", Due.ask(x, 0, "a"), 0);
        DUE.is("hit", x.hit(0), -1);
        x = crawled("a", "red");
        x.find(0);
        Due.ask(x, 0, "red");
        DUE.is("hits", hits(x), "0:1000000 ");
        x.find(0);
        DUE.is("none again behind find", x.hit(0), -1);
        DUE.is("none again behind find", x.score(0), -1L);
    }
}
