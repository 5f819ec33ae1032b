import java.nio.charset.StandardCharsets;

/** What the tests share: they print each answer that is not due, and end with 1 if there was one. */
final class Due {
    private int wrong = 0;
    private int asked = 0;
    private int sentences = 0;
    private String sentence = "";

    /** What comes next is asked for by this sentence of the document. */
    void of(String sentenceOfTheDocument) {
        sentences++;
        sentence = sentenceOfTheDocument;
    }

    private void wrong(String what) {
        wrong++;
        System.out.println(what + (sentence.isEmpty() ? "" : " by: " + sentence));
    }

    void is(String call, long got, long want) {
        asked++;
        if (got != want) {
            wrong(call + " answered " + got + ", due is " + want);
        }
    }

    void is(String call, boolean got, boolean want) {
        is(call, got ? 1 : 0, want ? 1 : 0);
    }

    void is(String call, String got, String want) {
        asked++;
        if (!got.equals(want)) {
            wrong(call + " made '" + got + "', due is '" + want + "'");
        }
    }

    /** That the call throws such an exception, and not another one. */
    void fails(String call, Class<? extends RuntimeException> with, Runnable run) {
        String got = "nothing";
        try {
            run.run();
        } catch (RuntimeException e) {
            got = e.getClass().getSimpleName();
        }
        is(call + " throwing", got, with.getSimpleName());
    }

    void end(String test) {
        String of = sentences == 0 ? "" : " of " + sentences + " sentences";
        System.out.println(test + ": " + asked + " answers" + of + ", " + wrong + " of them wrong");
        if (wrong != 0 || asked == 0) {
            System.exit(1);
        }
    }

    /** The tape is empty before; its bytes are those of the text then. */
    static void tape(Finder x, String text) {
        byte[] bytes = text.getBytes(StandardCharsets.ISO_8859_1);
        for (int i = 0; i < bytes.length; i += 20) {
            x.feed(word(bytes, i), word(bytes, i + 4), word(bytes, i + 8), word(bytes, i + 12), word(bytes, i + 16));
        }
        x.end(bytes.length);
    }

    private static int word(byte[] bytes, int at) {
        int word = 0;
        for (int i = at; i < at + 4; i++) {
            word = word << 8 | (i < bytes.length ? bytes[i] & 255 : 'x');
        }
        return word;
    }

    static String product(Finder x) {
        StringBuilder text = new StringBuilder();
        int made = x.made();
        for (int i = 0; i < made; i++) {
            text.append((char) x.out(i));
        }
        return text.toString();
    }

    static String read(Finder x, String base, String reference) {
        tape(x, base + "\n" + reference);
        x.read();
        return product(x);
    }

    static int page(Finder x, int status, String address, String text) {
        tape(x, address + "\n" + text);
        return x.page(status);
    }

    static boolean drop(Finder x, String address) {
        tape(x, address);
        return x.drop();
    }

    static int rules(Finder x, String address, String text) {
        tape(x, address + "\n" + text);
        return x.rules();
    }

    static int allowed(Finder x, String address) {
        tape(x, address);
        return x.allowed();
    }

    /**
     * The product's lines, with a , behind each; of as many new objects as it takes to read it whole with the calls that
     * one has.
     */
    static String look(int what, String address, String text) {
        StringBuilder product = new StringBuilder();
        int made;
        do {
            Finder x = new Finder();
            tape(x, address + "\n" + text);
            x.look(what);
            made = x.made();
            for (int i = product.length(); i < made && x.callsLeft() > 0; i++) {
                product.append((char) x.out(i));
            }
        } while (product.length() < made);
        return product.toString().replace('\n', ',');
    }

    static int seed(Finder x, String address) {
        tape(x, address);
        return x.seed();
    }

    static int ask(Finder x, int mode, String question) {
        tape(x, question);
        return x.ask(mode);
    }

    static String address(Finder x, int i) {
        return x.address(i) == Finder.NONE ? "none" : product(x);
    }

    /** Each number with a blank behind it. */
    static String states(Finder x) {
        StringBuilder text = new StringBuilder();
        for (int i = 0; i < x.count(2); i++) {
            text.append(x.known(i, 0)).append(' ');
        }
        return text.toString();
    }
}
