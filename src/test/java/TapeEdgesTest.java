/** The edges of promises 1 to 3, 28 and 29, and of what the document says of lines, the tape and the product. */
public final class TapeEdgesTest {
    private static final Due DUE = new Due();
    private static final int LEAST = Integer.MIN_VALUE;
    private static final int MOST = Integer.MAX_VALUE;

    public static void main(String[] args) {
        newObject();
        newObjectRefuses();
        feedOrder();
        feedUpTo8000();
        feedBeyond8000();
        feedThatThrows();
        endCuts();
        bytesBehindTheEnd();
        endThatThrows();
        usesOfTheTape();
        refusedUsesOfTheTape();
        callsThatLeaveTheTape();
        tapeCanBeFilledAgain();
        nothingBehindTheFirst10();
        lines();
        productAnew();
        callsThatLeaveTheProduct();
        lengthOfTheProduct();
        bytesOfTheProduct();
        DUE.end("TapeEdgesTest");
    }

    private static void newObject() {
        DUE.of("An empty web, no crawl, no bytes.");
        Finder x = new Finder();
        DUE.is("end(0)", x.end(0), 0);
        DUE.is("made", x.made(), 0);
        DUE.is("out(0)", x.out(0), -1);
        DUE.is("clock", x.clock(), -1);
        for (int what = 0; what < 5; what++) {
            DUE.is("count " + what, x.count(what), 0);
            DUE.is("known " + what, x.known(0, what), -1);
            DUE.is("asking " + what, x.asking(0, what), -1);
            DUE.is("document " + what, x.document(0, what), -1);
        }
        DUE.is("address", x.address(0), -1);
        DUE.is("where", x.where(0), -1);
        DUE.is("hit", x.hit(0), -1);
        DUE.is("score", x.score(0), -1L);
        DUE.is("no rules", Due.allowed(x, "http://a/"), 1);
        DUE.is("no page", Due.drop(x, "http://a/"), false);
        DUE.is("no seeds", x.start(), 0);
    }

    private static void newObjectRefuses() {
        DUE.of("An empty web, no crawl, no bytes.");
        Finder x = new Finder();
        DUE.is("step", x.step(), -1);
        DUE.is("run(0)", x.run(0), -1);
        DUE.is("crash", x.crash(), false);
        DUE.is("find(0)", x.find(0), -1);
        DUE.is("read", x.read(), 0);
        DUE.is("page", x.page(200), -1);
        DUE.is("drop", x.drop(), false);
        DUE.is("rules", x.rules(), -1);
        DUE.is("allowed", x.allowed(), -1);
        DUE.is("look", x.look(0), -1);
        DUE.is("seed", x.seed(), -1);
        DUE.is("ask", x.ask(0), 0);
        DUE.fails("end(1)", IllegalArgumentException.class, () -> x.end(1));
    }

    private static void feedOrder() {
        DUE.of("Twenty bytes come behind those of the tape, the highest byte of each int first.");
        Finder x = new Finder();
        x.feed(0x68747470, 0x3a2f2f68, 0x2f0a3031, 0x32333435, 0x36373839);
        // The bytes above 127 are no letters; each would spoil its neighbours if its sign went into them.
        x.feed(0xff616263, 0x64ff6566, 0x6768ff69, 0x6a6b6cff, 0x80808080);
        x.feed(0x41424344, 0xffffffff, 0x45464748, 0, 0x7a7a7a7a);
        DUE.is("end(60)", x.end(60), 60);
        DUE.is("look(1)", x.look(1), 7);
        DUE.is("words", Due.product(x).replace('\n', ','), "0123456789,abcd,efgh,ijkl,abcd,efgh,zzzz,");
    }

    /** 7980 blanks and an address of twenty bytes. */
    private static Finder full() {
        Finder x = new Finder();
        for (int i = 0; i < 399; i++) {
            x.feed(0x20202020, 0x20202020, 0x20202020, 0x20202020, 0x20202020);
        }
        x.feed(0x68747470, 0x3a2f2f68, 0x2f616263, 0x64656667, 0x68696a6b);
        return x;
    }

    private static void feedUpTo8000() {
        DUE.of("THE TAPE are the bytes that came in, 8000 at most");
        Finder x = full();
        DUE.is("end(8000)", x.end(8000), 8000);
        DUE.is("read", x.read(), 20);
        DUE.is("product", Due.product(x), "http://h/abcdefghijk");
        DUE.is("end(0)", x.end(0), 0);
    }

    private static void feedOnce(Finder x) {
        x.feed(0x78787878, 0x78787878, 0x78787878, 0x78787878, 0x78787878);
    }

    private static void feedBeyond8000() {
        DUE.of("IllegalStateException: there would be more than 8000.");
        Finder x = full();
        for (int n = 8000; n > 7980; n--) {
            x.end(n);
            DUE.fails("feed behind " + n, IllegalStateException.class, () -> feedOnce(x));
        }
        DUE.is("end(7980)", x.end(7980), 7981);
        feedOnce(x);
        DUE.is("feed behind 7980", x.end(8000), 8000);
    }

    private static void feedThatThrows() {
        DUE.of("Other calls that are refused change nothing; one that throws neither.");
        Finder x = full();
        DUE.fails("feed", IllegalStateException.class, () -> feedOnce(x));
        DUE.fails("feed", IllegalStateException.class, () -> x.feed(0, -1, LEAST, MOST, 10));
        DUE.is("as many bytes as before", x.end(8000), 8000);
        DUE.is("the same bytes", x.read(), 20);
        DUE.is("the same bytes", Due.product(x), "http://h/abcdefghijk");
    }

    private static void endCuts() {
        DUE.of("The tape has only its first n bytes. Answers how many it had.");
        Finder x = new Finder();
        DUE.is("end(0) of none", x.end(0), 0);
        x.feed(0x68747470, 0x3a2f2f68, 0x2f616263, 0x64656667, 0x68696a6b);
        DUE.is("end(20): all", x.end(20), 20);
        DUE.is("end(19): all but one", x.end(19), 20);
        DUE.is("end(10)", x.end(10), 19);
        DUE.is("end(10)", x.end(10), 10);
        x.feed(0x31323334, 0x35363738, 0x393a3b3d, 0x40414243, 0x44454647);
        DUE.is("what comes then is behind these", x.end(19), 30);
        DUE.is("read", x.read(), 19);
        DUE.is("product", Due.product(x), "http://h/a123456789");
        x.feed(0, 0, 0, 0, 0);
        DUE.is("end(1)", x.end(1), 20);
        DUE.is("end(0)", x.end(0), 1);
        DUE.is("end(0)", x.end(0), 0);
    }

    /** What a call answers to a tape that was cut, and what it made. */
    private static String answer(int call, String text, int n, boolean moreBehind) {
        Finder x = new Finder();
        Due.tape(x, moreBehind ? text : text.substring(0, n));
        x.end(n);
        return switch (call) {
            case 0 -> x.read() + " " + Due.product(x);
            case 1 -> x.look(0) + " " + Due.product(x);
            case 2 -> x.look(1) + " " + Due.product(x);
            case 3 -> x.rules() + " " + Due.allowed(x, "http://h/a") + Due.allowed(x, "http://h/");
            case 4 -> x.allowed() + "";
            default -> x.seed() + " " + x.start() + " " + Due.address(x, 0);
        };
    }

    private static void bytesBehindTheEnd() {
        DUE.of("The tape has only its first n bytes.");
        String[] texts = {"http://h:8080/%41?%42#x", "http://h/\n//k:81/%2e%2e/x%7ey?z", "http://h/\n../a/..",
            "http://h/\na<!--b--><a href='x'></c><script>d</script>&amp;&#65;&#x41;<a href=y >",
            "http://h/\n<base href=r/><a href = \"x\"><?p><!q></ ><style></style ><a href>",
            "http://h/\nuser-agent: finder\nallow: /a%41\ndisallow: /*$", "http://h/\nuser-agent: *\ndisallow:/a*b\r\n#x"};
        for (String text : texts) {
            for (int n = 0; n <= text.length(); n++) {
                for (int call = 0; call < 6; call++) {
                    String name = "call " + call + " with " + n + " bytes of " + text;
                    DUE.is(name, answer(call, text, n, true), answer(call, text, n, false));
                }
            }
        }
    }

    private static void endThatThrows() {
        DUE.of("IllegalArgumentException: there are not so many, or n is below 0.");
        for (int n : new int[] {21, 22, 8000, 8001, MOST, -1, -2, -20, LEAST}) {
            Finder x = new Finder();
            x.feed(0x68747470, 0x3a2f2f68, 0x2f616263, 0x64656667, 0x68696a6b);
            DUE.fails("end(" + n + ")", IllegalArgumentException.class, () -> x.end(n));
            DUE.is("as many as before", x.end(20), 20);
            DUE.is("the same bytes", x.read(), 20);
            DUE.is("the same bytes", Due.product(x), "http://h/abcdefghijk");
        }
        Finder none = new Finder();
        DUE.fails("end(1) of none", IllegalArgumentException.class, () -> none.end(1));
        DUE.fails("end(-1) of none", IllegalArgumentException.class, () -> none.end(-1));
    }

    /** The eight calls that use the tape, by number. */
    private static void use(Finder x, int call) {
        switch (call) {
            case 0 -> x.read();
            case 1 -> x.page(200);
            case 2 -> x.drop();
            case 3 -> x.rules();
            case 4 -> x.allowed();
            case 5 -> x.look(0);
            case 6 -> x.seed();
            default -> x.ask(0);
        }
    }

    private static void usesOfTheTape() {
        DUE.of("calls that use it empty it, also if they are refused or nothing comes of it");
        Finder x = new Finder();
        for (String tape : new String[] {"http://a/", "http://a/\n", "http://a/\nred", "nothing", "", " ", "\n"}) {
            for (int call = 0; call < 8; call++) {
                Due.tape(x, tape);
                use(x, call);
                DUE.is("the tape behind call " + call + " with " + tape, x.end(0), 0);
            }
        }
    }

    private static void refusedUsesOfTheTape() {
        DUE.of("calls that use it empty it, also if they are refused or nothing comes of it");
        for (int status : new int[] {99, 600, LEAST, MOST}) {
            Finder x = new Finder();
            DUE.is("page " + status, Due.page(x, status, "http://a/", "x"), -1);
            DUE.is("the tape", x.end(0), 0);
        }
        for (int what : new int[] {-1, 2, LEAST, MOST}) {
            Finder x = new Finder();
            Due.tape(x, "http://a/\nx");
            DUE.is("look " + what, x.look(what), -1);
            DUE.is("the tape", x.end(0), 0);
        }
        for (int mode : new int[] {-1, 3, LEAST, MOST}) {
            Finder x = new Finder();
            DUE.is("ask " + mode, Due.ask(x, mode, "x"), -1);
            DUE.is("the tape", x.end(0), 0);
        }
    }

    private static void callsThatLeaveTheTape() {
        DUE.of("calls that use it empty it");
        Finder x = new Finder();
        Due.page(x, 200, "http://a/", "red");
        Due.seed(x, "http://a/");
        Due.tape(x, "http://h/abc");
        x.set(0, 1);
        x.noSeeds();
        x.start();
        x.step();
        x.run(1);
        x.crash();
        x.find(0);
        x.clock();
        x.count(0);
        x.known(0, 0);
        x.asking(0, 1);
        x.address(0);
        x.document(0, 0);
        x.where(0);
        x.hit(0);
        x.score(0);
        x.made();
        x.out(0);
        DUE.is("the tape has what it had", x.end(12), 12);
        DUE.is("read", x.read(), 12);
        DUE.is("product", Due.product(x), "http://h/abc");
    }

    private static void tapeCanBeFilledAgain() {
        DUE.of("calls that use it empty it");
        Finder x = new Finder();
        for (int i = 0; i < 200; i++) {
            feedOnce(x);
        }
        DUE.is("nothing", x.read(), 0);
        for (int i = 0; i < 200; i++) {
            feedOnce(x);
        }
        DUE.is("4000, not 8000", x.end(4000), 4000);
    }

    private static void nothingBehindTheFirst10() {
        DUE.of("What is behind the first 10 is empty when there is none: an empty reference is the base itself.");
        for (String tape : new String[] {"http://a/b?c", "http://a/b?c\n", "http://a/b?c\r\n", "http://a/b?c#d\n"}) {
            Finder x = new Finder();
            Due.tape(x, tape);
            DUE.is("read " + tape, x.read(), 12);
            DUE.is("the base itself", Due.product(x), "http://a/b?c");
            for (int what = 0; what < 2; what++) {
                Due.tape(x, tape);
                DUE.is("look " + what, x.look(what), 0);
            }
            Due.tape(x, tape);
            DUE.is("rules", x.rules(), 0);
            Due.tape(x, tape);
            DUE.is("page", x.page(301), 1);
            Due.seed(x, "http://a/b?c");
            x.start();
            DUE.is("an empty text leads on to itself", x.step(), 3);
            DUE.is("itself", x.known(0, 3), 0);
        }
    }

    private static void lines() {
        DUE.of("A LINE of a text goes up to the first 10, or to its end, without that 10 and a 13 just before it.");
        Finder x = new Finder();
        DUE.is("13 10", Due.read(x, "http://a/b\r", "c"), "http://a/c");
        DUE.is("13 13 10, of which one is a blank", Due.read(x, "http://a/b\r\r", "c"), "http://a/c");
        DUE.is("10 13", Due.read(x, "http://a/b", "\rc"), "http://a/c");
        DUE.is("a 13 alone ends none", Due.read(x, "http://a/b\rc", "d"), "");
        DUE.is("9, 12 and 32 end none", Due.read(x, "http://a/b\tc", "d"), "");
        DUE.is("an empty line, then the base is nothing", Due.read(x, "", "c"), "");
        DUE.is("an empty line, then the base is nothing", Due.read(x, "", "http://a/c"), "http://a/c");
        DUE.is("the second 10 is of the reference", Due.read(x, "http://a/b", "c\n"), "http://a/c");
        DUE.is("the second 10 is of the reference", Due.read(x, "http://a/b", "c\nd"), "");
        DUE.is("a page's second line", Due.page(x, 301, "http://a/1", "2\r\n3"), 1);
        DUE.is("a page's second line", Due.page(x, 301, "http://a/2", "\n3"), 2);
        Due.seed(x, "http://a/1");
        x.start();
        x.run(9);
        DUE.is("up to the first 10", Due.address(x, 1), "http://a/2");
        DUE.is("the line is empty, not the text", x.known(1, 3), 1);
    }

    /** A page http://a/ that was got and found. */
    private static Finder found() {
        Finder x = new Finder();
        Due.page(x, 200, "http://a/", "red <a href=?>");
        Due.seed(x, "http://a/");
        x.set(0, 0);
        x.start();
        x.step();
        x.find(0);
        Due.read(x, "http://h/", "longer/than/those/that/come");
        return x;
    }

    private static void productAnew() {
        DUE.of("THE PRODUCT are bytes; a call that says so makes it anew.");
        Finder x = found();
        DUE.is("address", x.address(0), 9);
        DUE.is("product", Due.product(x), "http://a/");
        DUE.is("no byte of before", x.out(9), -1);
        x = found();
        DUE.is("where", x.where(0), 9);
        DUE.is("product", Due.product(x), "http://a/");
        x = found();
        DUE.is("asking", x.asking(0, 1), 9);
        DUE.is("product", Due.product(x), "http://a/");
        x = found();
        Due.tape(x, "http://a/\nred");
        DUE.is("look", x.look(1), 1);
        DUE.is("product", Due.product(x), "red\n");
        x = found();
        Due.tape(x, "http://a/\nred");
        DUE.is("look that finds none", x.look(0), 0);
        DUE.is("product", Due.product(x), "");
        x = found();
        DUE.is("read of nothing", Due.read(x, "", "<"), "");
        DUE.is("made", x.made(), 0);
    }

    private static void callsThatLeaveTheProduct() {
        DUE.of("THE PRODUCT are bytes; a call that says so makes it anew.");
        Finder x = found();
        String before = Due.product(x);
        Due.page(x, 200, "http://b/", "");
        Due.drop(x, "http://b/");
        Due.rules(x, "http://b/", "user-agent: *\ndisallow: /");
        Due.allowed(x, "http://b/");
        Due.seed(x, "http://b/");
        x.set(0, 1);
        x.start();
        x.step();
        x.run(9);
        x.crash();
        x.run(9);
        x.clock();
        x.count(2);
        x.known(0, 0);
        x.asking(0, 0);
        x.find(1);
        x.document(0, 1);
        Due.ask(x, 0, "red");
        x.hit(0);
        x.score(0);
        x.noSeeds();
        DUE.is("the product", Due.product(x), before);
    }

    private static void lengthOfTheProduct() {
        DUE.of("How many bytes the product has.");
        Finder x = new Finder();
        DUE.is("a new object", x.made(), 0);
        Due.tape(x, "http://h/\n" + "a ".repeat(3990));
        x.look(1);
        DUE.is("the words of a full tape", x.made(), 7980);
        DUE.is("the last", x.out(7979), 10);
        DUE.is("behind the last", x.out(7980), -1);
        x.read();
        DUE.is("none", x.made(), 0);
    }

    private static void bytesOfTheProduct() {
        DUE.of("Byte i of the product; NONE when there is none such.");
        Finder x = new Finder();
        Due.read(x, "http://h/", "xyz");
        DUE.is("made", x.made(), 12);
        DUE.is("the first", x.out(0), 'h');
        DUE.is("the last", x.out(11), 'z');
        DUE.is("behind the last", x.out(12), -1);
        DUE.is("before the first", x.out(-1), -1);
        DUE.is("the greatest", x.out(MOST), -1);
        DUE.is("the least", x.out(LEAST), -1);
        DUE.is("made", x.made(), 12);
        x.read();
        DUE.is("made of none", x.made(), 0);
        DUE.is("the first of none", x.out(0), -1);
    }
}
