/** Promises 1 to 4, 28 and 29: a new object, the tape, addresses, the product. */
public final class AddressTest {
    private static final Due DUE = new Due();
    private static final String BASE = "http://h/a/b/c?q";

    public static void main(String[] args) {
        newObject();
        feedAndEnd();
        byteOrder();
        trimmingAndFragments();
        badBytes();
        schemes();
        hosts();
        bases();
        escapes();
        segments();
        lengths();
        tapeAndProduct();
        DUE.end("AddressTest");
    }

    private static void reads(String reference, String want) {
        DUE.is("read " + reference, Due.read(new Finder(), BASE, reference), want);
    }

    private static void newObject() {
        Finder x = new Finder();
        DUE.is("made", x.made(), 0);
        DUE.is("out", x.out(0), Finder.NONE);
        DUE.is("end", x.end(0), 0);
        DUE.is("clock", x.clock(), -1);
        DUE.is("crash", x.crash(), false);
        DUE.is("step", x.step(), -1);
        DUE.is("run", x.run(1), -1);
        DUE.is("find", x.find(1), -1);
        for (int what = 0; what < 5; what++) {
            DUE.is("count " + what, x.count(what), 0);
        }
        DUE.is("known", x.known(0, 0), -1);
        DUE.is("asking", x.asking(0, 0), -1);
        DUE.is("document", x.document(0, 0), -1);
        DUE.is("hit", x.hit(0), -1);
        DUE.is("score", x.score(0), -1L);
    }

    private static boolean feedThrows(Finder x) {
        try {
            x.feed(1, 2, 3, 4, 5);
            return false;
        } catch (IllegalStateException e) {
            return true;
        }
    }

    private static boolean endThrows(Finder x, int n) {
        try {
            x.end(n);
            return false;
        } catch (IllegalArgumentException e) {
            return true;
        }
    }

    private static void feedAndEnd() {
        Finder x = new Finder();
        for (int i = 0; i < 400; i++) {
            DUE.is("feed " + i, feedThrows(x), false);
        }
        DUE.is("feed beyond 8000", feedThrows(x), true);
        DUE.is("end(8001)", endThrows(x, 8001), true);
        DUE.is("end(-1)", endThrows(x, -1), true);
        DUE.is("end(8000)", x.end(8000), 8000);
        DUE.is("end(7981)", x.end(7981), 8000);
        DUE.is("feed to 8001", feedThrows(x), true);
        DUE.is("end(7980)", x.end(7980), 7981);
        DUE.is("feed to 8000", feedThrows(x), false);
        DUE.is("end(0)", x.end(0), 8000);
        DUE.is("end(0)", x.end(0), 0);
        DUE.is("end(1)", endThrows(x, 1), true);
    }

    private static void byteOrder() {
        Finder x = new Finder();
        x.feed(0x68747470, 0x3a2f2f61, 0x62636465, 0x66676869, 0x6a6b6c6d);
        x.feed(0x6e6f7071, 0x72737475, 0x76777879, 0x7a303132, 0x33343536);
        DUE.is("end", x.end(40), 40);
        DUE.is("read", x.read(), 41);
        DUE.is("made", x.made(), 41);
        DUE.is("product", Due.product(x), "http://abcdefghijklmnopqrstuvwxyz0123456/");
        DUE.is("out(-1)", x.out(-1), -1);
    }

    private static void trimmingAndFragments() {
        reads(" \t\n\f\rx \t\n\f\r", "http://h/a/b/x");
        reads("\u000bx", "");
        reads("x#y#z", "http://h/a/b/x");
        reads("x #y", "");
        reads("# y", BASE);
        reads("x#\u0001<%", "http://h/a/b/x");
    }

    private static void badBytes() {
        for (int value = 0; value < 256; value++) {
            boolean bad = value < 33 || value > 126 || "\"<>\\^`{|}%".indexOf(value) >= 0;
            String path = value == '#' ? "x" : "x" + (char) value + "y";
            if (value != ':' && value != '?' && value != '/') {
                reads("x" + (char) value + "y", bad ? "" : "http://h/a/b/" + path);
            }
        }
        reads("%", "");
        reads("%4", "");
        reads("%4g", "");
        reads("%g4", "");
        reads("%%41", "");
        reads("x%4#1", "");
    }

    private static void schemes() {
        reads("http://k/x", "http://k/x");
        reads("hTTp://K/x", "http://k/x");
        reads("http:x", "");
        reads("http:/x", "");
        reads("http:", "");
        reads("https://k/", "");
        reads("x:y", "");
        reads(":", "");
        reads("/x:y", "http://h/x:y");
        reads("?x:y", "http://h/a/b/c?x:y");
        reads("x/y:z", "http://h/a/b/x/y:z");
    }

    private static void hosts() {
        String sixty = "a".repeat(60);
        reads("//" + sixty, "http://" + sixty + "/");
        reads("//" + sixty + "a", "");
        reads("//", "");
        reads("///x", "");
        reads("//?x", "");
        reads("//A-b.9:7/", "http://a-b.9:7/");
        reads("//a_b/", "");
        reads("//a%41/", "");
        reads("//:80/", "");
        reads("//a:/x", "http://a/x");
        reads("//a:80/x", "http://a/x");
        reads("//a:080?x", "http://a/?x");
        reads("//a:00080", "http://a/");
        reads("//a:000080", "");
        reads("//a:0", "http://a:0/");
        reads("//a:00000", "http://a:0/");
        reads("//a:00800", "http://a:800/");
        reads("//a:65535", "http://a:65535/");
        reads("//a:65536", "");
        reads("//a:99999", "");
        reads("//a:8x", "");
        reads("//a:8:8", "");
        reads("//a:-8", "");
        reads("//" + sixty + ":12345", "http://" + sixty + ":12345/");
    }

    private static void bases() {
        reads("", BASE);
        reads("?", "http://h/a/b/c?");
        reads("?r/s", "http://h/a/b/c?r/s");
        reads("/", "http://h/");
        reads("/x?y?z", "http://h/x?y?z");
        reads("x", "http://h/a/b/x");
        reads("x?", "http://h/a/b/x?");
        Finder x = new Finder();
        DUE.is("a / in the base's query", Due.read(x, "http://h/a/b?c/d", "e"), "http://h/a/e");
        DUE.is("host alone as base", Due.read(x, "http://h", "e"), "http://h/e");
        DUE.is("port of the base", Due.read(x, "http://h:9?x", "e"), "http://h:9/e");
        DUE.is("base that is nothing", Due.read(x, "/a", "e"), "");
        DUE.is("base that is nothing, own host", Due.read(x, "/a", "//e"), "http://e/");
        DUE.is("13 before 10", Due.read(x, "http://h/x\r", "e"), "http://h/e");
    }

    private static void escapes() {
        reads("/%61%5a%30%2d%2e%5f%7e", "http://h/aZ0-._~");
        reads("/%2f%3a%c3%7f", "http://h/%2F%3A%C3%7F");
        reads("?%61%2f", "http://h/a/b/c?a%2F");
        reads("/%2561", "http://h/%2561");
        reads("/x/%2e%2E/y", "http://h/y");
        reads("/x/%2e", "http://h/x/");
    }

    private static void segments() {
        reads(".", "http://h/a/b/");
        reads("..", "http://h/a/");
        reads("../..", "http://h/");
        reads("../../../..", "http://h/");
        reads("../../../../x", "http://h/x");
        reads("/a/./b/../c/..", "http://h/a/");
        reads("/a//../b", "http://h/a/b");
        reads("/a//", "http://h/a//");
        reads("/a/../", "http://h/");
        reads("/...", "http://h/...");
        reads("/.a/a.", "http://h/.a/a.");
        reads("/a?/../b", "http://h/a?/../b");
    }

    private static void lengths() {
        String path = "p".repeat(191);
        reads("/" + path, "http://h/" + path);
        reads("/" + path + "p", "");
        reads("/" + "../".repeat(1000) + "x", "http://h/x");
        reads("/" + path + "/x/%2e%2e/..", "http://h/");
        reads("?" + "q".repeat(185), "http://h/a/b/c?" + "q".repeat(185));
        reads("?" + "q".repeat(186), "");
    }

    private static void tapeAndProduct() {
        Finder x = new Finder();
        Due.read(x, BASE, "x");
        DUE.is("the tape is empty then", x.end(0), 0);
        DUE.is("out(14)", x.out(13), 'x');
        DUE.is("out beyond", x.out(14), -1);
        Due.read(x, BASE, "<");
        DUE.is("made", x.made(), 0);
        DUE.is("the tape is empty then", x.end(0), 0);
        Due.tape(x, "http://h/a");
        DUE.is("no 10", x.read(), 10);
        DUE.is("no 10", Due.product(x), "http://h/a");
        DUE.is("no bytes", x.read(), 0);
    }
}
