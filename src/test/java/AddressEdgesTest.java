/** The edges of promise 4 and of the steps 1 to 8 of ADDRESSES: the last that is taken, the first that is nothing. */
public final class AddressEdgesTest {
    private static final Due DUE = new Due();
    private static final String BASE = "http://h/a/b?q";
    private static final String MARKS = "\"<>\\^`{|}";
    private static final String HEX = "0123456789abcdefABCDEF";

    public static void main(String[] args) {
        trims();
        cutsAtHash();
        badBytes();
        percents();
        schemes();
        hostEnds();
        hostLengths();
        hostBytes();
        ports();
        wrongPorts();
        withoutBase();
        emptyReferences();
        ownPaths();
        basesUpToTheirLastSlash();
        escapes();
        escapesOnce();
        emptyPaths();
        dots();
        dotsAtTheEnd();
        queries();
        mostBytes();
        bytesCountedAtLast();
        asLongAsTheTape();
        basesThatAreNothing();
        productOfRead();
        order();
        sites();
        DUE.end("AddressEdgesTest");
    }

    private static void reads(String reference, String want) {
        DUE.is("read " + reference, Due.read(new Finder(), BASE, reference), want);
    }

    private static void readsAlone(String reference, String want) {
        DUE.is("read without a base " + reference, Due.read(new Finder(), "", reference), want);
    }

    private static boolean isLetterOrDigit(int value) {
        return value >= 'a' && value <= 'z' || value >= 'A' && value <= 'Z' || value >= '0' && value <= '9';
    }

    private static void trims() {
        DUE.of("BLANKS are the bytes 32, 9, 10, 12 and 13");
        for (int value = 0; value < 256; value++) {
            if (value < 33 || value > 126) {
                boolean blank = value == 32 || value == 9 || value == 10 || value == 12 || value == 13;
                reads((char) value + "x", blank ? "http://h/a/x" : "");
                reads("x" + (char) value, blank ? "http://h/a/x" : "");
                reads("" + (char) value, blank ? BASE : "");
                reads("x" + (char) value + "y", "");
            }
        }
        reads(" \t\n\f\r\r\f\n\t x \t\n\f\r\r\f\n\t ", "http://h/a/x");
    }

    private static void cutsAtHash() {
        DUE.of("It is trimmed; then all from the first # on goes.");
        reads("x#", "http://h/a/x");
        reads("x#y#z", "http://h/a/x");
        reads("#", BASE);
        reads("#x", BASE);
        reads(" # ", BASE);
        reads("x#<> \u0000\u00ff%", "http://h/a/x");
        reads("x #y", "");
        reads("x# y", "http://h/a/x");
        reads("//k#x", "http://k/");
        reads("//#x", "");
        reads("?#x", "http://h/a/b?");
        reads("http:#//k", "");
        readsAlone("#", "");
        readsAlone("http://k#", "http://k/");
    }

    private static void badBytes() {
        DUE.of("It is nothing if a byte of it is not 33 .. 126, or one of \" < > \\ ^ ` { | }");
        for (int value = 0; value < 256; value++) {
            boolean bad = value < 33 || value > 126 || MARKS.indexOf(value) >= 0;
            if ("#%:/?".indexOf(value) < 0) {
                reads("/x" + (char) value + "y", bad ? "" : "http://h/x" + (char) value + "y");
                reads("?x" + (char) value + "y", bad ? "" : "http://h/a/b?x" + (char) value + "y");
            }
        }
        reads("!", "http://h/a/!");
        reads("~", "http://h/a/~");
        reads("\u007f", "");
        reads("http://k/\u0080", "");
    }

    private static void percents() {
        DUE.of("or a % behind which there are not two of 0-9, a-f, A-F.");
        for (int value = 0; value < 256; value++) {
            boolean hex = HEX.indexOf(value) >= 0;
            DUE.is("% " + value + " 1", Due.read(new Finder(), BASE, "%" + (char) value + "1").isEmpty(), !hex);
            DUE.is("% 1 " + value, Due.read(new Finder(), BASE, "%1" + (char) value).isEmpty(), !hex);
        }
        reads("%", "");
        reads("%4", "");
        reads("%41", "http://h/a/A");
        reads("x%", "");
        reads("x%4", "");
        reads("x%4#1", "");
        reads("x%#41", "");
        reads("?%", "");
        reads("?%4", "");
        reads("?%41", "http://h/a/b?A");
        reads("%%41", "");
        reads("%4%31", "");
    }

    private static void schemes() {
        DUE.of("If the first : is before the first / and the first ?, it is nothing, unless what is before that : is, "
            + "lower, http, and // is just behind the :.");
        reads("http://k", "http://k/");
        reads("HTTP://k", "http://k/");
        reads("hTtP://k", "http://k/");
        reads("htt://k", "");
        reads("httpx://k", "");
        reads("https://k", "");
        reads("://k", "");
        reads(":", "");
        reads("x:", "");
        reads("http:", "");
        reads("http:/", "");
        reads("http:/k", "");
        reads("http:k", "");
        reads("http:?//k", "");
        reads("http:///k", "");
        reads("http::://k", "");
        reads(" http://k ", "http://k/");
        reads("/:", "http://h/:");
        reads("?:", "http://h/a/b?:");
        reads("x/:", "http://h/a/x/:");
        reads("x?:", "http://h/a/x?:");
        reads("./x:y", "http://h/a/x:y");
        reads("x:/", "");
        reads("x:?", "");
        reads("1:2", "");
        reads("%68ttp://k", "");
        readsAlone("http://k", "http://k/");
    }

    private static void hostEnds() {
        DUE.of("its HOST is what follows, up to the next / or ? or the end; what is behind that is its path, and from "
            + "the first ? on its query.");
        reads("//k", "http://k/");
        reads("//k/", "http://k/");
        reads("//k?", "http://k/?");
        reads("//k/x", "http://k/x");
        reads("//k?x", "http://k/?x");
        reads("//k?x/y", "http://k/?x/y");
        reads("//k/?x", "http://k/?x");
        reads("//k/x?y?z/", "http://k/x?y?z/");
        reads("//k//x", "http://k//x");
    }

    private static void hostLengths() {
        DUE.of("It is nothing unless the host is 1 to 60 letters, digits, - or .");
        String sixty = "a1-.".repeat(15);
        reads("//" + sixty, "http://" + sixty + "/");
        reads("//" + sixty + "b", "");
        reads("//" + sixty + ":65535", "http://" + sixty + ":65535/");
        reads("//" + sixty + "b:65535", "");
        reads("//" + sixty + ":80", "http://" + sixty + "/");
        reads("//a", "http://a/");
        reads("//-", "http://-/");
        reads("//.", "http://./");
        reads("//..", "http://../");
        reads("//9", "http://9/");
        reads("//", "");
        reads("///", "");
        reads("//?", "");
        reads("//:", "");
        reads("//:1", "");
        reads("http://", "");
        reads("http://:80/", "");
    }

    private static void hostBytes() {
        DUE.of("It is nothing unless the host is 1 to 60 letters, digits, - or .");
        for (int value = 0; value < 256; value++) {
            char c = (char) value;
            if ("#/?:".indexOf(c) < 0) {
                boolean taken = isLetterOrDigit(value) || c == '-' || c == '.';
                char lower = (char) (value >= 'A' && value <= 'Z' ? value + 32 : value);
                reads("//a" + c + "/", taken ? "http://a" + lower + "/" : "");
                reads("//" + c + "a", taken ? "http://" + lower + "a/" : "");
            }
        }
        reads("//a%41/", "");
        reads("//%61/", "");
    }

    private static void ports() {
        DUE.of("a : goes with a port of no digits or of the number 80 (080, too), zeros in front of other ports go (but "
            + "the last one of 0).");
        for (String port : new String[] {":", ":80", ":080", ":0080", ":00080"}) {
            reads("//k" + port, "http://k/");
            reads("//k" + port + "/x", "http://k/x");
            reads("//k" + port + "?x", "http://k/?x");
        }
        for (int port : new int[] {0, 1, 7, 8, 79, 81, 99, 100, 800, 808, 8080, 9999, 10000, 65534, 65535}) {
            for (String zeros = ""; zeros.length() + ("" + port).length() <= 5; zeros += "0") {
                reads("//k:" + zeros + port + "/", "http://k:" + port + "/");
            }
        }
    }

    private static void wrongPorts() {
        DUE.of("and behind these perhaps a : and 0 to 5 digits of a number of at most 65535.");
        String[] wrong = {"65536", "65537", "70000", "99999", "000000", "000080", "000001", "123456", "4294967376"};
        for (String port : wrong) {
            reads("//k:" + port, "");
        }
        for (String port : new String[] {"x", "8x", "x8", "-1", "+1", "8.0", "8:", ":8", ":", "%38", "8a"}) {
            reads("//k:" + port + "/", "");
        }
        for (char c : new char[] {'.', ';', '/' - 1, '9' + 1}) {
            reads("//k:1" + c + "/", "");
        }
        reads("//k:65535", "http://k:65535/");
        reads("//k:00000", "http://k:0/");
    }

    private static void withoutBase() {
        DUE.of("Otherwise its host is that of the base (nothing, if there is none)");
        for (String reference : new String[] {"", "/", "?", "x", ".", "..", "/x", "?x", "#", "x/y", "k.com", "/k"}) {
            readsAlone(reference, "");
        }
        readsAlone("//k", "http://k/");
        Finder x = new Finder();
        DUE.is("host and port of the base", Due.read(x, "http://K:081/a", "/x"), "http://k:81/x");
        DUE.is("host and port of the base", Due.read(x, "http://k:80/a", "x"), "http://k/x");
    }

    private static void emptyReferences() {
        DUE.of("if nothing stands before its first ? or its end, its path is the base's, and its query its own, or the "
            + "base's if it has no ?");
        reads("", BASE);
        reads("?", "http://h/a/b?");
        reads("?x", "http://h/a/b?x");
        reads("?x?y", "http://h/a/b?x?y");
        Finder x = new Finder();
        DUE.is("a base without a query", Due.read(x, "http://h/a", ""), "http://h/a");
        DUE.is("a base with an empty query", Due.read(x, "http://h/a?", ""), "http://h/a?");
        DUE.is("a base with an empty query", Due.read(x, "http://h/a?", "x"), "http://h/x");
        DUE.is("a base of a host alone", Due.read(x, "http://h", ""), "http://h/");
        DUE.is("a base of a host alone", Due.read(x, "http://h", "?x"), "http://h/?x");
        DUE.is("a base of a host and a query", Due.read(x, "http://h?y", "?"), "http://h/?");
    }

    private static void ownPaths() {
        DUE.of("if it begins with / path and query are its own");
        reads("/", "http://h/");
        reads("/?", "http://h/?");
        reads("/x", "http://h/x");
        reads("/x?y", "http://h/x?y");
    }

    private static void basesUpToTheirLastSlash() {
        DUE.of("otherwise its path is the base's up to its last / and then its own, its query its own.");
        reads("x", "http://h/a/x");
        reads("x?", "http://h/a/x?");
        reads("x/", "http://h/a/x/");
        Finder x = new Finder();
        DUE.is("the last / of the path, not of the query", Due.read(x, "http://h/a/b?c/d", "x"), "http://h/a/x");
        DUE.is("a / at the path's end", Due.read(x, "http://h/a/b/", "x"), "http://h/a/b/x");
        DUE.is("two at its end", Due.read(x, "http://h/a//", "x"), "http://h/a//x");
        DUE.is("one alone", Due.read(x, "http://h/", "x"), "http://h/x");
        DUE.is("%2F is none", Due.read(x, "http://h/a/b%2Fc", "x"), "http://h/a/x");
        DUE.is("an empty path is /", Due.read(x, "http://h?a/b", "x"), "http://h/x");
    }

    private static String escaped(int value) {
        boolean plain = isLetterOrDigit(value) || "-._~".indexOf(value) >= 0;
        return plain ? "" + (char) value : String.format("%%%02X", value);
    }

    private static void escapes() {
        DUE.of("In path and query, before 7, each % with its two is the byte that these make, if that is a letter, a "
            + "digit, or one of - . _ ~; in others letters become A-F.");
        for (int value = 0; value < 256; value++) {
            String low = String.format("%%%02x", value);
            String high = String.format("%%%02X", value);
            reads("/x" + low + "y", "http://h/x" + escaped(value) + "y");
            reads("/x" + high + "y?" + high + low, "http://h/x" + escaped(value) + "y?" + escaped(value) + escaped(value));
        }
        reads("/%aB%Ab", "http://h/%AB%AB");
        reads("/x/%2e/y", "http://h/x/y");
        reads("/x/%2e%2E/y", "http://h/y");
        reads("/x/.%2e", "http://h/");
        reads("?%2e%2e/x", "http://h/a/b?../x");
    }

    private static void escapesOnce() {
        DUE.of("each % with its two is the byte that these make");
        reads("/%2541", "http://h/%2541");
        reads("/%25%34%31", "http://h/%2541");
        reads("/%2%35", "");
        reads("/%2F..%2f", "http://h/%2F..%2F");
        reads("/x%3fy%23z", "http://h/x%3Fy%23z");
        DUE.is("of a base, too", Due.read(new Finder(), "http://h/%41%2541/%7e?%5f", ""), "http://h/A%2541/~?_");
    }

    private static void emptyPaths() {
        DUE.of("A path that is empty is /.");
        reads("//k", "http://k/");
        reads("//k?", "http://k/?");
        reads("//k?..", "http://k/?..");
        reads("//k:8", "http://k:8/");
    }

    private static void dots() {
        DUE.of("From the first one on: a . goes; a .. goes, and the one before it that is left, if there is one.");
        reads("/./x", "http://h/x");
        reads("/../x", "http://h/x");
        reads("/../../x", "http://h/x");
        reads("/x/../y", "http://h/y");
        reads("/x/../../y", "http://h/y");
        reads("/x/y/../../z", "http://h/z");
        reads("/x/./../y", "http://h/y");
        reads("/x/../y/../z", "http://h/z");
        reads("//k/../x", "http://k/x");
        reads("/x//../y", "http://h/x/y");
        reads("/x///../../y", "http://h/x/y");
        reads("//k//..//x", "http://k//x");
        reads("/.../x", "http://h/.../x");
        reads("/..x/x../.x/x.", "http://h/..x/x../.x/x.");
        reads("../x", "http://h/x");
        reads("../../x", "http://h/x");
        reads("/x?/../y", "http://h/x?/../y");
    }

    private static void dotsAtTheEnd() {
        DUE.of("If the last segment was . or .. there is an empty one behind those that are left.");
        reads("/.", "http://h/");
        reads("/..", "http://h/");
        reads("/./", "http://h/");
        reads("/../", "http://h/");
        reads("/x/.", "http://h/x/");
        reads("/x/./", "http://h/x/");
        reads("/x/..", "http://h/");
        reads("/x/../", "http://h/");
        reads("/x/y/..", "http://h/x/");
        reads("/x//..", "http://h/x/");
        reads("/x/.?y", "http://h/x/?y");
        reads("/x/..?", "http://h/?");
        reads("/x/...", "http://h/x/...");
        reads("/x/..#y", "http://h/");
        reads(".", "http://h/a/");
        reads("..", "http://h/");
        reads("/", "http://h/");
        reads("/x/", "http://h/x/");
        reads("/x//", "http://h/x//");
        reads("/x/../..//", "http://h//");
    }

    private static void queries() {
        DUE.of("and the query with its ? (if it has one, perhaps with nothing behind).");
        reads("/x", "http://h/x");
        reads("/x?", "http://h/x?");
        reads("/x??", "http://h/x??");
        reads("/x?y", "http://h/x?y");
    }

    private static void mostBytes() {
        DUE.of("It is nothing if these are more than 200 bytes.");
        String path = "http://k/" + "p".repeat(191);
        reads(path, path);
        reads(path + "p", "");
        String query = "http://k/?" + "q".repeat(190);
        reads(query, query);
        reads(query + "q", "");
        reads("http://k?" + "q".repeat(190), query);
        reads("http://k?" + "q".repeat(191), "");
        String host = "http://" + "h".repeat(60) + ":65535/" + "/".repeat(126);
        reads(host, host);
        reads(host + "/", "");
        reads("p".repeat(189), "http://h/a/" + "p".repeat(189));
        reads("p".repeat(190), "");
        reads("?" + "q".repeat(187), "http://h/a/b?" + "q".repeat(187));
        reads("?" + "q".repeat(188), "");
        reads("/" + "%2f".repeat(63) + "xx", "http://h/" + "%2F".repeat(63) + "xx");
        reads("/" + "%2f".repeat(63) + "xxx", "");
        DUE.is("as a base", Due.read(new Finder(), path, ""), path);
        DUE.is("as a base that is nothing", Due.read(new Finder(), path + "p", ""), "");
        DUE.is("as a base that is nothing", Due.read(new Finder(), path + "p", "x"), "");
    }

    private static void bytesCountedAtLast() {
        DUE.of("It is nothing if these are more than 200 bytes.");
        reads("/" + "x".repeat(300) + "/../y", "http://h/y");
        reads("/" + "%41".repeat(191), "http://h/" + "A".repeat(191));
        reads("/" + "%41".repeat(192), "");
        reads("/" + "./".repeat(500), "http://h/");
        reads("/" + "../".repeat(500), "http://h/");
        reads("x#" + "y".repeat(500), "http://h/a/x");
        reads(" ".repeat(500) + "x", "http://h/a/x");
        reads("//k:00080/" + "p".repeat(191), "http://k/" + "p".repeat(191));
    }

    private static void asLongAsTheTape() {
        DUE.of("It is nothing if these are more than 200 bytes.");
        for (int length : new int[] {1000, 3000, 7900}) {
            String bytes = "x".repeat(length);
            reads(bytes, "");
            reads("/" + bytes, "");
            reads("?" + bytes, "");
            reads("//" + bytes, "");
            reads("//k/" + bytes, "");
            reads("//k?" + bytes, "");
            reads(bytes + ":", "");
            reads("/" + bytes + "/../y", "http://h/y");
            reads(bytes + "/.././y?z", "http://h/a/y?z");
            reads("y#" + bytes, "http://h/a/y");
        }
    }

    private static void basesThatAreNothing() {
        DUE.of("its first line is a base (read without one; nothing if nothing comes of it), all behind its first 10 a "
            + "reference, which is read.");
        Finder x = new Finder();
        String[] bases = {"", "x", "/x", "?", "http:", "http://", "https://h/", "http://h/<", "http://h/ x"};
        for (String base : bases) {
            DUE.is("read x with " + base, Due.read(x, base, "x"), "");
            DUE.is("read //k with " + base, Due.read(x, base, "//k"), "http://k/");
        }
        DUE.is("made", x.made(), 9);
        DUE.is("of a reference that is nothing", Due.read(x, "http://h/", ":"), "");
        DUE.is("the product is empty", x.made(), 0);
        DUE.is("and the tape", x.end(0), 0);
    }

    private static void productOfRead() {
        DUE.of("The product is the address that comes of it, or empty. Answers how many bytes it has.");
        String longest = "http://h/" + "p".repeat(191);
        Finder x = new Finder();
        Due.tape(x, longest);
        DUE.is("the longest", x.read(), 200);
        DUE.is("made", x.made(), 200);
        DUE.is("its last byte", x.out(199), 'p');
        DUE.is("behind it", x.out(200), -1);
        Due.tape(x, longest + "p");
        DUE.is("one byte more", x.read(), 0);
        DUE.is("made", x.made(), 0);
        DUE.is("no byte", x.out(0), -1);
        Due.tape(x, "//k");
        DUE.is("the shortest", x.read(), 9);
        DUE.is("product", Due.product(x), "http://k/");
        DUE.is("behind it", x.out(9), -1);
    }

    private static void order() {
        DUE.of("ORDER of addresses: byte by byte, the shorter one first if the other begins with it.");
        String[] ordered = {"a-/", "a./", "a/", "a/!", "a/-", "a/0", "a/?", "a/?0", "a/A", "a/Z", "a/_", "a/a", "a/a/",
            "a/aa", "a/~", "a0/", "a:1/", "aa/"};
        // Steps that go through all of them, up, down and to and fro.
        for (int step : new int[] {1, ordered.length - 1, 5, 7, 11}) {
            isOrdered(ordered, step);
        }
    }

    private static void isOrdered(String[] ordered, int step) {
        Finder x = new Finder();
        int[] numbers = new int[ordered.length];
        for (int number = 0; number < ordered.length; number++) {
            int i = (number + 1) * step % ordered.length;
            numbers[i] = number;
            Due.page(x, 200, "http://" + ordered[i], "" + i);
            Due.seed(x, "http://" + ordered[i]);
        }
        x.start();
        x.run(100);
        DUE.is("find", x.find(0), ordered.length);
        for (int d = 0; d < ordered.length; d++) {
            DUE.is("number of " + ordered[d], x.document(d, 0), numbers[d]);
            DUE.is("where " + d, x.where(d), 7 + ordered[d].length());
            DUE.is("last byte", x.out(6 + ordered[d].length()), ordered[d].charAt(ordered[d].length() - 1));
        }
    }

    private static void sites() {
        DUE.of("A SITE is an address's host with its port.");
        Finder x = new Finder();
        Due.rules(x, "http://a/x?y", "user-agent: *\ndisallow: /");
        DUE.is("the same host", Due.allowed(x, "http://A/z"), 0);
        DUE.is("port 80", Due.allowed(x, "http://a:080"), 0);
        DUE.is("another port", Due.allowed(x, "http://a:81/"), 1);
        DUE.is("port 0", Due.allowed(x, "http://a:0/"), 1);
        DUE.is("a longer host", Due.allowed(x, "http://aa/"), 1);
        DUE.is("a host that goes on", Due.allowed(x, "http://a.b/"), 1);
        DUE.is("a host that ends so", Due.allowed(x, "http://b.a/"), 1);
        Due.rules(x, "http://b:81/", "user-agent: *\ndisallow: /");
        DUE.is("its port", Due.allowed(x, "http://b:0081/"), 0);
        DUE.is("no port", Due.allowed(x, "http://b/"), 1);
        DUE.is("a shorter port", Due.allowed(x, "http://b:8/"), 1);
        DUE.is("a longer port", Due.allowed(x, "http://b:811/"), 1);
    }
}
