import java.nio.charset.StandardCharsets;

/** What the tests share: they print each answer that is not due, and end with 1 if there was one. */
final class Due {
    private int wrong = 0;
    private int asked = 0;

    void is(String call, long got, long want) {
        asked++;
        if (got != want) {
            wrong++;
            System.out.println(call + " answered " + got + ", due is " + want);
        }
    }

    void is(String call, boolean got, boolean want) {
        is(call, got ? 1 : 0, want ? 1 : 0);
    }

    void is(String call, String got, String want) {
        asked++;
        if (!got.equals(want)) {
            wrong++;
            System.out.println(call + " made '" + got + "', due is '" + want + "'");
        }
    }

    void end(String test) {
        System.out.println(test + ": " + asked + " answers, " + wrong + " of them wrong");
        if (wrong != 0 || asked == 0) {
            System.exit(1);
        }
    }

    /** The tape is empty before; its bytes are those of the text then. */
    static void tape(WebFinder x, String text) {
        byte[] bytes = text.getBytes(StandardCharsets.ISO_8859_1);
        for (int i = 0; i < bytes.length; i += 20) {
            x.feed(word(bytes, i), word(bytes, i + 4), word(bytes, i + 8), word(bytes, i + 12), word(bytes, i + 16));
        }
        x.end(bytes.length);
    }

    private static int word(byte[] bytes, int at) {
        int word = 0;
        for (int i = at; i < at + 4; i++) {
            word = word << 8 | (i < bytes.length ? bytes[i] & 255 : 'x');
        }
        return word;
    }

    static String product(WebFinder x) {
        StringBuilder text = new StringBuilder();
        for (int i = 0; i < x.made(); i++) {
            text.append((char) x.out(i));
        }
        return text.toString();
    }

    static String read(WebFinder x, String base, String reference) {
        tape(x, base + "\n" + reference);
        x.read();
        return product(x);
    }

    static int page(WebFinder x, int status, String address, String text) {
        tape(x, address + "\n" + text);
        return x.page(status);
    }

    static boolean drop(WebFinder x, String address) {
        tape(x, address);
        return x.drop();
    }

    static int rules(WebFinder x, String address, String text) {
        tape(x, address + "\n" + text);
        return x.rules();
    }

    static int allowed(WebFinder x, String address) {
        tape(x, address);
        return x.allowed();
    }

    /** The product's lines, with a , behind each. */
    static String look(WebFinder x, int what, String address, String text) {
        tape(x, address + "\n" + text);
        x.look(what);
        return product(x).replace('\n', ',');
    }

    static int seed(WebFinder x, String address) {
        tape(x, address);
        return x.seed();
    }

    static int ask(WebFinder x, int mode, String question) {
        tape(x, question);
        return x.ask(mode);
    }

    static String address(WebFinder x, int i) {
        return x.address(i) == WebFinder.NONE ? "none" : product(x);
    }

    /** Each number with a blank behind it. */
    static String states(WebFinder x) {
        StringBuilder text = new StringBuilder();
        for (int i = 0; i < x.count(2); i++) {
            text.append(x.known(i, 0)).append(' ');
        }
        return text.toString();
    }
}
