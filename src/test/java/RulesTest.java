/** Promises 7 and 8: rules, allowed. */
public final class RulesTest {
    private static final Due DUE = new Due();

    public static void main(String[] args) {
        groups();
        lines();
        patterns();
        longest();
        sites();
        refusals();
        DUE.end("RulesTest");
    }

    private static void holds(String text, int want) {
        DUE.is("rules " + text, Due.rules(new Finder(), "http://s/", text), want);
    }

    /** One rule disallow with that pattern. */
    private static void matches(String pattern, String path, boolean want) {
        Finder x = new Finder();
        Due.rules(x, "http://s/", "user-agent: *\ndisallow: " + pattern);
        DUE.is(pattern + " for " + path, Due.allowed(x, "http://s" + path), want ? 0 : 1);
    }

    private static void groups() {
        holds("", 0);
        holds("allow: /a", 0);
        holds("allow: /a\nuser-agent: *\nallow: /b", 1);
        holds("user-agent: *\nallow: /a\nuser-agent: *\nallow: /b\ndisallow: /c", 3);
        holds("user-agent: x\nuser-agent: *\nuser-agent: y\nallow: /a", 1);
        holds("user-agent: x\nallow: /b\nuser-agent: *\nallow: /a", 1);
        holds("user-agent: *\nallow: /a\nuser-agent: x\nallow: /b", 1);
        holds("user-agent: *\nallow: /a\nuser-agent: Finder\nallow: /b\nallow: /c\nuser-agent: *\nallow: /d", 2);
        holds("user-agent: FINDER\nallow: /b\nuser-agent: finder\nallow: /c", 2);
        holds("user-agent: *\nallow: /a\nuser-agent: finder", 0);
        holds("user-agent: *\nallow: /a\nuser-agent: finder2", 1);
        holds("user-agent: *\nnot a line of these\nsitemap: /x\n\nuser-agent: y\n\nallow: /a", 1);
        holds("user-agent: *\nuser-agent: finder\nallow: /a", 1);
        holds("user-agent: finder\ndisallow:\nuser-agent: y\nallow: /a", 0);
        holds("user-agent:\nallow: /a", 0);
    }

    private static void lines() {
        holds("USER-AGENT:*\nAllow:/a", 1);
        holds(" \tuser-agent\t : * \r\n allow : /a \r\n", 1);
        holds("user-agent: * # all\nallow: /a # b\n#allow: /c\nallow #: /c", 1);
        holds("user-agent: *\nallow: # empty\ndisallow:\ndisallow: \t", 0);
        holds("user-agent: *\nallow : a : b\nallows: c\nallow d: e", 1);
        holds("user-agent: *\rallow: /a", 0);
        matches("/a # /b", "/a", true);
        matches("/a:b", "/a:b", true);
        matches("/a:b", "/a", false);
    }

    private static void patterns() {
        matches("/", "/", true);
        matches("/a", "/", false);
        matches("/a", "/ab?c", true);
        matches("a", "/a", false);
        matches("*a", "/ba", true);
        matches("*", "/", true);
        matches("/a*c", "/abbbc", true);
        matches("/a*c", "/ac", true);
        matches("/a*c", "/ab", false);
        matches("/a*c*d", "/a/c/d/e", true);
        matches("/a*c*d", "/a/d/c", false);
        matches("/a**b", "/ab", true);
        matches("/*?", "/x", false);
        matches("/*?", "/x?", true);
        matches("/a$", "/a", true);
        matches("/a$", "/ab", false);
        matches("/a$", "/a?", false);
        matches("/a*$", "/abc", true);
        matches("/*a$", "/aba", true);
        matches("/*a$", "/abab", false);
        matches("/a*a$", "/a", false);
        matches("/a*a$", "/aa", true);
        matches("$", "/", false);
        matches("*$", "/", true);
        matches("/$a", "/$a", true);
        matches("/a$$", "/a$", true);
        matches("/a$$", "/a$b", false);
        matches("/%61", "/a", true);
        matches("/%2f", "/%2F", true);
        matches("/%2A", "/*", false);
        matches("/%", "/%41", false);
        matches("/%4", "/%4a", false);
        matches("/x%24", "/x%24y", true);
        matches("/x%24", "/x", false);
    }

    private static void longest() {
        Finder x = new Finder();
        Due.rules(x, "http://s/", "user-agent: *\nallow: /a\ndisallow: /a\ndisallow: /ab\nallow: /ab*\ndisallow: /c\nallow: /%63");
        DUE.is("as long: the allow", Due.allowed(x, "http://s/a"), 1);
        DUE.is("longer: the allow with *", Due.allowed(x, "http://s/ab"), 1);
        DUE.is("a pattern is as long as its bytes without %", Due.allowed(x, "http://s/c"), 1);
        Due.rules(x, "http://s/", "user-agent: *\nallow: /\ndisallow: /a\nallow: /ab$");
        DUE.is("the longer disallow", Due.allowed(x, "http://s/abc"), 0);
        DUE.is("the $ is a byte, too", Due.allowed(x, "http://s/ab"), 1);
        DUE.is("the rest", Due.allowed(x, "http://s/b"), 1);
        Due.rules(x, "http://s/", "user-agent: *\ndisallow: /abc\nallow: /%61%62");
        DUE.is("3 bytes against 4", Due.allowed(x, "http://s/abc"), 0);
    }

    private static void sites() {
        Finder x = new Finder();
        String no = "user-agent: *\ndisallow: /";
        DUE.is("rules of s", Due.rules(x, "http://s/x?y", no), 1);
        DUE.is("allowed", Due.allowed(x, "http://S:80/y"), 0);
        DUE.is("another port", Due.allowed(x, "http://s:81/y"), 1);
        DUE.is("a host that begins so", Due.allowed(x, "http://s.t/y"), 1);
        DUE.is("other rules", Due.rules(x, "http://s/", ""), 0);
        DUE.is("allowed", Due.allowed(x, "http://s/y"), 1);
        for (int i = 1; i < 12; i++) {
            DUE.is("site " + i, Due.rules(x, "http://s:" + i + "/", i % 2 == 0 ? "" : no), i % 2);
        }
        DUE.is("site 12", Due.rules(x, "http://t/", no), -1);
        DUE.is("site 12, allowed", Due.allowed(x, "http://t/"), 1);
        DUE.is("site 0 again", Due.rules(x, "http://s/", no), 1);
        DUE.is("site 2 again", Due.rules(x, "http://s:2/", no), 1);
    }

    private static void refusals() {
        Finder x = new Finder();
        DUE.is("no bytes", x.rules(), -1);
        DUE.is("nothing", Due.rules(x, "/x", "user-agent: *\ndisallow: /"), -1);
        DUE.is("the tape", x.end(0), 0);
        DUE.is("no bytes", x.allowed(), -1);
        DUE.is("nothing", Due.allowed(x, "x"), -1);
        DUE.is("two lines", Due.allowed(x, "http://s/\nx"), -1);
        DUE.is("the tape", x.end(0), 0);
        DUE.is("blanks", Due.allowed(x, " http://s/\r\n"), 1);
        Due.tape(x, "http://s/");
        DUE.is("no 10", x.rules(), 0);
    }
}
