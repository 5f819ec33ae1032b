import java.util.ArrayList;
import java.util.List;
import java.util.function.Consumer;
import java.util.function.Function;

/**
 * "Other calls that are refused change nothing; one that throws neither." Two objects are brought to the same state; one
 * of them gets a call that is refused; then all that can be seen of both, also of what is yet to come, is the same.
 */
public final class RefusalsTest {
    private static final Due DUE = new Due();
    private static final int LEAST = Integer.MIN_VALUE;
    private static final int MOST = Integer.MAX_VALUE;

    /** A call that is refused: the tape that it uses (null if it uses none), the call, and its answer. */
    private record Refused(String name, String tape, Function<Finder, Object> call, Object due) { }

    public static void main(String[] args) {
        DUE.of("Other calls that are refused change nothing; one that throws neither.");
        List<Refused> always = alwaysRefused();
        refuse("a new object", x -> { }, always, beforeStart(), noHits());
        refuse("a web, not crawled", RefusalsTest::tellWeb, always, beforeStart(), noHits());
        refuse("a crawl at its beginning", RefusalsTest::begin, always, whileSomeWait(), noHits());
        refuse("a crawl amid its way", RefusalsTest::goHalfWay, always, whileSomeWait(), noHits());
        refuse("a crawl behind a crash", RefusalsTest::crash, always, whileSomeWait(), noHits());
        refuse("a crawl that is through", RefusalsTest::goThrough, always, whenNothingWaits(), noHits());
        refuse("what was found and asked", RefusalsTest::findAndAsk, always, whenNothingWaits());
        refuse("what was found, and the next crawl", RefusalsTest::findAndGoOn, always, whileSomeWait());
        refuse("a full web", RefusalsTest::fillWeb, always, whenFull(), beforeStart());
        refuse("twelve sites with rules", RefusalsTest::tellTwelveSites, always, whenTwelveSites(), beforeStart());
        refuse("twenty seeds", RefusalsTest::tellTwentySeeds, always, whenTwentySeeds(), beforeStart());
        DUE.end("RefusalsTest");
    }

    // ---- states

    private static void tellWeb(Finder x) {
        Due.page(x, 200, "http://a/", "red <a href=b><a href=c><a href=d>");
        Due.page(x, 200, "http://a/b", "blue red <a href=/><a href=//k/>");
        Due.page(x, 301, "http://a/c", "b");
        Due.rules(x, "http://a/", "user-agent: *\ndisallow: /d");
        Due.seed(x, "http://a/");
        Due.seed(x, "http://k/");
        x.set(0, 2);
        x.set(3, 2);
        Due.read(x, "http://h/", "x");
    }

    private static void begin(Finder x) {
        tellWeb(x);
        x.start();
    }

    private static void goHalfWay(Finder x) {
        begin(x);
        x.run(3);
    }

    private static void crash(Finder x) {
        goHalfWay(x);
        x.crash();
    }

    private static void goThrough(Finder x) {
        begin(x);
        x.run(100);
    }

    private static void findAndAsk(Finder x) {
        goThrough(x);
        x.find(2);
        Due.ask(x, 0, "red");
    }

    private static void findAndGoOn(Finder x) {
        findAndAsk(x);
        x.start();
        x.run(3);
    }

    private static void fillWeb(Finder x) {
        for (int i = 10; i < 70; i++) {
            Due.page(x, 200, "http://a/" + i, "" + i);
        }
        Due.seed(x, "http://a/10");
        Due.seed(x, "http://a/99");
    }

    private static void tellTwelveSites(Finder x) {
        tellWeb(x);
        for (int i = 1; i < 12; i++) {
            Due.rules(x, "http://a:" + i + "/", "");
        }
    }

    private static void tellTwentySeeds(Finder x) {
        tellWeb(x);
        for (int i = 2; i < 20; i++) {
            Due.seed(x, "http://k/" + i);
        }
    }

    // ---- calls

    private static Object thrownBy(Runnable call) {
        try {
            call.run();
            return "nothing";
        } catch (RuntimeException e) {
            return e.getClass().getSimpleName();
        }
    }

    private static List<Refused> alwaysRefused() {
        List<Refused> calls = new ArrayList<>();
        for (int n : new int[] {-1, 8001, LEAST, MOST}) {
            calls.add(new Refused("end " + n, null, x -> thrownBy(() -> x.end(n)), "IllegalArgumentException"));
        }
        for (int status : new int[] {99, 600, LEAST, MOST}) {
            calls.add(new Refused("page " + status, "http://a/\ngreen", x -> x.page(status), -1));
        }
        for (String line : new String[] {"", "a/\n", "http://\nred", "http://a/ b\nuser-agent: *\ndisallow: /"}) {
            calls.add(new Refused("page of nothing " + line, line, x -> x.page(200), -1));
            calls.add(new Refused("rules of nothing " + line, line, x -> x.rules(), -1));
            calls.add(new Refused("look at nothing " + line, line, x -> x.look(0), -1));
            calls.add(new Refused("drop nothing " + line, line, x -> x.drop(), false));
            calls.add(new Refused("allowed of nothing " + line, line, x -> x.allowed(), -1));
            calls.add(new Refused("seed nothing " + line, line, x -> x.seed(), -1));
        }
        calls.add(new Refused("drop none", "http://none/", x -> x.drop(), false));
        for (int n : new int[] {-1, 2, LEAST, MOST}) {
            calls.add(new Refused("look " + n, "http://a/\nred<a href=x>", x -> x.look(n), -1));
        }
        for (int n : new int[] {-1, 3, LEAST, MOST}) {
            calls.add(new Refused("ask " + n, "red", x -> x.ask(n), -1));
        }
        int[][] settings = {{-1, 1}, {4, 1}, {0, -1}, {0, 21}, {1, -1}, {1, 9}, {2, -1}, {2, 1001}, {3, 0}, {3, 51},
            {LEAST, 1}, {MOST, 1}, {0, LEAST}, {1, MOST}, {2, LEAST}, {3, MOST}};
        for (int[] pair : settings) {
            calls.add(new Refused("set " + pair[0] + " " + pair[1], null, x -> x.set(pair[0], pair[1]), false));
        }
        for (int n : new int[] {-1, LEAST}) {
            calls.add(new Refused("run " + n, null, x -> x.run(n), -1));
        }
        for (int n : new int[] {-1, 51, LEAST, MOST}) {
            calls.add(new Refused("find " + n, null, x -> x.find(n), -1));
        }
        calls.addAll(alwaysNone());
        return calls;
    }

    /** Looks at what there is not. */
    private static List<Refused> alwaysNone() {
        List<Refused> calls = new ArrayList<>();
        for (int n : new int[] {-1, 250, LEAST, MOST}) {
            for (int what = 0; what < 2; what++) {
                int w = what;
                calls.add(new Refused("known " + n, null, x -> x.known(n, w), -1));
                calls.add(new Refused("asking " + n, null, x -> x.asking(n, w), -1));
                calls.add(new Refused("document " + n, null, x -> x.document(n, w), -1));
            }
            calls.add(new Refused("address " + n, null, x -> x.address(n), -1));
            calls.add(new Refused("where " + n, null, x -> x.where(n), -1));
            calls.add(new Refused("hit " + n, null, x -> x.hit(n), -1));
            calls.add(new Refused("score " + n, null, x -> x.score(n), -1L));
            calls.add(new Refused("out " + n, null, x -> x.out(n), -1));
        }
        for (int n : new int[] {-1, 6, LEAST, MOST}) {
            calls.add(new Refused("count " + n, null, x -> x.count(n), -1));
            calls.add(new Refused("known 0 " + n, null, x -> x.known(0, n), -1));
            calls.add(new Refused("asking 0 " + n, null, x -> x.asking(0, n), -1));
            calls.add(new Refused("document 0 " + n, null, x -> x.document(0, n), -1));
        }
        return calls;
    }

    private static List<Refused> beforeStart() {
        return List.of(
            new Refused("step", null, x -> x.step(), -1),
            new Refused("run 0", null, x -> x.run(0), -1),
            new Refused("run 1", null, x -> x.run(1), -1),
            new Refused("crash", null, x -> x.crash(), false),
            new Refused("clock", null, x -> x.clock(), -1),
            new Refused("find 0", null, x -> x.find(0), -1),
            new Refused("known 0 0", null, x -> x.known(0, 0), -1),
            new Refused("asking 0 1", null, x -> x.asking(0, 1), -1),
            new Refused("address 0", null, x -> x.address(0), -1),
            new Refused("where 0", null, x -> x.where(0), -1),
            new Refused("document 0 0", null, x -> x.document(0, 0), -1));
    }

    private static List<Refused> noHits() {
        return List.of(
            new Refused("hit 0", null, x -> x.hit(0), -1),
            new Refused("score 0", null, x -> x.score(0), -1L),
            new Refused("where 0", null, x -> x.where(0), -1));
    }

    private static List<Refused> whileSomeWait() {
        return List.of(
            new Refused("find 0", null, x -> x.find(0), -1),
            new Refused("find 50", null, x -> x.find(50), -1),
            new Refused("run 0, which takes no step", null, x -> x.run(0), 0));
    }

    private static List<Refused> whenNothingWaits() {
        return List.of(
            new Refused("step", null, x -> x.step(), -1),
            new Refused("run 1, which takes no step", null, x -> x.run(1), 0));
    }

    private static List<Refused> whenFull() {
        return List.of(
            new Refused("a 61st page", "http://a/99\nred", x -> x.page(200), -1),
            new Refused("one of the pages with a wrong status", "http://a/10\nred", x -> x.page(99), -1));
    }

    private static List<Refused> whenTwelveSites() {
        return List.of(
            new Refused("a 13th site", "http://k/\nuser-agent: *\ndisallow: /", x -> x.rules(), -1),
            new Refused("an empty 13th site", "http://k/", x -> x.rules(), -1));
    }

    private static List<Refused> whenTwentySeeds() {
        return List.of(
            new Refused("a 21st seed", "http://a/b", x -> x.seed(), -1),
            new Refused("one of the seeds", "http://a/", x -> x.seed(), -1));
    }

    // ---- what can be seen of an object

    private static String product(Finder x) {
        return x.made() + " " + Due.product(x);
    }

    /** What is told of a crawl. */
    private static String crawl(Finder x) {
        StringBuilder s = new StringBuilder("clock " + x.clock());
        for (int what = 0; what < 5; what++) {
            s.append(" count ").append(x.count(what));
        }
        for (int i = 0; i < x.count(2) && i < 8; i++) {
            s.append("\n").append(x.address(i));
            for (int what = 0; what < 4; what++) {
                s.append(' ').append(x.known(i, what));
            }
        }
        for (int k = 0; x.asking(k, 0) != -1 && k < 8; k++) {
            s.append("\nasking ").append(x.asking(k, 0)).append(' ').append(x.asking(k, 1));
            s.append(' ').append((char) x.out(x.made() - 1));
        }
        return s.toString();
    }

    /** What is told of what was found. */
    private static String found(Finder x) {
        StringBuilder s = new StringBuilder();
        for (int d = 0; x.document(d, 0) != -1; d++) {
            s.append("\n").append(x.where(d));
            for (int what = 0; what < 6; what++) {
                s.append(' ').append(x.document(d, what));
            }
        }
        for (int i = 0; x.hit(i) != -1; i++) {
            s.append("\nhit ").append(x.hit(i)).append(' ').append(x.score(i));
        }
        x.end(0);
        return s.append("\nask ").append(Due.ask(x, 2, "blue red")).append(' ').append(x.hit(0)).toString();
    }

    private static String goOn(Finder x) {
        return x.run(2) + " " + crawl(x) + x.crash() + " " + x.run(100) + " " + crawl(x) + x.find(1) + found(x);
    }

    private static String beginAnew(Finder x) {
        return x.start() + " " + x.run(3) + x.crash() + x.run(100) + " " + crawl(x) + x.find(1) + found(x);
    }

    private static String rulesOfAll(Finder x) {
        StringBuilder s = new StringBuilder();
        x.end(0);
        for (String address : new String[] {"http://a/", "http://a/d", "http://k/", "http://b/"}) {
            s.append(Due.allowed(x, address)).append(' ');
        }
        return s.toString();
    }

    /** Each look on two objects of its own, since no object has the calls for all of them. */
    private static List<Function<Finder, String>> looks() {
        return List.of(
            RefusalsTest::product,
            x -> x.read() + " " + product(x),
            RefusalsTest::crawl,
            x -> x.crash() + crawl(x),
            RefusalsTest::found,
            RefusalsTest::goOn,
            RefusalsTest::beginAnew,
            RefusalsTest::rulesOfAll);
    }

    // ---- both together

    @SafeVarargs
    private static void refuse(String state, Consumer<Finder> bring, List<Refused>... calls) {
        feedThatThrows(state, bring);
        List<String> dueWithTape = seen(bring, "");
        List<String> due = seen(bring, "http://t/a\nb");
        for (List<Refused> some : calls) {
            for (Refused call : some) {
                List<String> want = call.tape == null ? due : dueWithTape;
                for (int look = 0; look < want.size(); look++) {
                    Finder x = new Finder();
                    bring.accept(x);
                    Due.tape(x, call.tape == null ? "http://t/a\nb" : call.tape);
                    DUE.is(state + ": " + call.name, "" + call.call.apply(x), "" + call.due);
                    if (call.tape != null) {
                        DUE.is(state + ": the tape behind " + call.name, x.end(0), 0);
                    }
                    DUE.is(state + ": look " + look + " behind " + call.name, looks().get(look).apply(x), want.get(look));
                }
            }
        }
    }

    private static List<String> seen(Consumer<Finder> bring, String tape) {
        List<String> seen = new ArrayList<>();
        for (Function<Finder, String> look : looks()) {
            Finder x = new Finder();
            bring.accept(x);
            Due.tape(x, tape);
            seen.add(look.apply(x));
        }
        return seen;
    }

    /** A tape that has room for nineteen bytes more. */
    private static void fillTape(Finder x) {
        for (int i = 0; i < 400; i++) {
            x.feed(0x20202020, 0x20202020, 0x20202020, 0x20202020, 0x20202020);
        }
        x.end(7981);
    }

    /** What few calls can see, none of which changes anything. */
    private static String glance(Finder x) {
        StringBuilder s = new StringBuilder("clock " + x.clock() + " made " + x.made() + " last " + x.out(9));
        for (int what = 0; what < 5; what++) {
            s.append(' ').append(x.count(what)).append(' ').append(x.known(0, what));
        }
        return s.append(" found ").append(x.document(0, 1)).append(' ').append(x.hit(0)).append(' ').append(x.score(0)).toString();
    }

    /** Few calls are left where a tape was filled, and none at all in the states that take many themselves. */
    private static void feedThatThrows(String state, Consumer<Finder> bring) {
        Finder x = new Finder();
        bring.accept(x);
        if (x.callsLeft() < 445) {
            return;
        }
        fillTape(x);
        String before = glance(x);
        DUE.is(state + ": feed", "" + thrownBy(() -> x.feed(1, 2, 3, 4, 5)), "IllegalStateException");
        DUE.is(state + ": behind feed", glance(x), before);
        DUE.is(state + ": the tape", x.end(7981), 7981);
        DUE.is(state + ": the tape has blanks alone, and is nothing", x.seed(), -1);
        DUE.is(state + ": the tape", x.end(0), 0);
    }
}
