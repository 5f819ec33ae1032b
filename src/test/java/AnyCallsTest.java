import java.util.Random;

/** Any calls with any arguments, up to an object's last one: none throws but feed and end, and these where they must. */
public final class AnyCallsTest {
    private static final Due DUE = new Due();
    private static final int[] EDGES = {Integer.MIN_VALUE, -1, 0, 1, 2, 3, 4, 5, 6, 12, 20, 21, 50, 51, 60, 99, 100, 200,
        250, 301, 599, 600, 999, 1000, 1001, 8000, 8001, Integer.MAX_VALUE};
    private static final String BYTES = "http://a/b?c#:80 \n\r\t<>='\"!--;&#x41;%2e..*$user-agent:finder\nallow:/base href"
        + " script/style";
    private static final String[] TEXTS = {"http://a/", "http://a/\n<a href=b><a href=//c/>red", "http://a/b\nblue <a href=/>",
        "http://c/\nuser-agent: *\ndisallow: /x*y$", "http://a/c\nb", "red blue", "http://c/x/y"};

    private final Random random;
    private final Finder x = new Finder();
    private int tape;

    private AnyCallsTest(int seed) {
        random = new Random(seed);
    }

    public static void main(String[] args) {
        for (int seed = 0; seed < 400; seed++) {
            AnyCallsTest run = new AnyCallsTest(seed);
            while (run.x.callsLeft() > 0) {
                run.callOne("run " + seed);
            }
        }
        DUE.end("AnyCallsTest");
    }

    private int any() {
        return random.nextInt(20) == 0 ? random.nextInt() : EDGES[random.nextInt(EDGES.length)];
    }

    private int anyBytes() {
        int word = 0;
        for (int i = 0; i < 4; i++) {
            int value = random.nextInt(12) == 0 ? random.nextInt(256) : BYTES.charAt(random.nextInt(BYTES.length()));
            word = word << 8 | value;
        }
        return word;
    }

    private void callOne(String run) {
        int call = random.nextInt(40);
        try {
            if (call < 8) {
                feed(run);
            } else if (call < 10) {
                end(run);
            } else if (call < 14) {
                text();
            } else if (call < 22) {
                use(call - 14);
                tape = 0;
            } else {
                look(call - 22);
            }
        } catch (RuntimeException e) {
            DUE.is(run + ": call " + call + " throws", e.toString(), "nothing");
        }
    }

    private void feed(String run) {
        boolean thrown = false;
        try {
            x.feed(anyBytes(), anyBytes(), anyBytes(), anyBytes(), anyBytes());
        } catch (IllegalStateException e) {
            thrown = true;
        }
        DUE.is(run + ": feed throws", thrown, tape > 7980);
        tape += thrown ? 0 : 20;
    }

    private void end(String run) {
        int n = any();
        int had;
        try {
            had = x.end(n);
        } catch (IllegalArgumentException e) {
            had = -2;
        }
        DUE.is(run + ": end " + n, had, n < 0 || n > tape ? -2 : tape);
        tape = n < 0 || n > tape ? tape : n;
    }

    private void text() {
        String text = TEXTS[random.nextInt(TEXTS.length)];
        if (tape == 0 && x.callsLeft() > 10) {
            Due.tape(x, text);
            tape = text.length();
        }
    }

    private void use(int call) {
        switch (call) {
            case 0 -> x.read();
            case 1 -> x.page(random.nextBoolean() ? 200 : any());
            case 2 -> x.drop();
            case 3 -> x.rules();
            case 4 -> x.allowed();
            case 5 -> x.look(any());
            case 6 -> x.seed();
            default -> x.ask(any());
        }
    }

    private void look(int call) {
        switch (call) {
            case 0 -> x.set(any(), any());
            case 1 -> x.noSeeds();
            case 2 -> x.start();
            case 3 -> x.step();
            case 4 -> x.run(any());
            case 5 -> x.crash();
            case 6 -> x.clock();
            case 7 -> x.count(any());
            case 8 -> x.known(any(), any());
            case 9 -> x.asking(any(), any());
            case 10 -> x.address(any());
            case 11 -> x.find(any());
            case 12 -> x.document(any(), any());
            case 13 -> x.where(any());
            case 14 -> x.hit(any());
            case 15 -> x.score(any());
            case 16 -> x.made();
            default -> x.out(any());
        }
    }
}
