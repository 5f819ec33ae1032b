/** The edges of promises 7 and 8, and of RULES. */
public final class RulesEdgesTest {
    private static final Due DUE = new Due();
    private static final String ALL = "user-agent: *\n";

    public static void main(String[] args) {
        emptyAtFirst();
        hashes();
        colons();
        keys();
        trimmed();
        otherKeys();
        groupsOfAgents();
        beforeTheFirstAgent();
        passedOverLinesPartNothing();
        finderBeforeAll();
        agentNames();
        emptyPatterns();
        patternEscapes();
        stars();
        ends();
        begins();
        longest();
        manyPatterns();
        rulesCounted();
        ruleLines();
        rulesOfTheLine();
        twelveSites();
        refusedSites();
        allowedOfNothing();
        DUE.end("RulesEdgesTest");
    }

    private static void holds(String text, int want) {
        DUE.is("rules " + text, Due.rules(new Finder(), "http://s/", text), want);
    }

    private static void allows(String text, String path, boolean want) {
        Finder x = new Finder();
        Due.rules(x, "http://s/", text);
        DUE.is(text + " for " + path, Due.allowed(x, "http://s" + path), want ? 1 : 0);
    }

    private static void matches(String pattern, String path, boolean want) {
        allows(ALL + "disallow: " + pattern, path, !want);
    }

    private static void emptyAtFirst() {
        DUE.of("A site has RULES, a text, empty at first.");
        Finder x = new Finder();
        DUE.is("allowed at first", Due.allowed(x, "http://s/"), 1);
        DUE.is("told", Due.rules(x, "http://s/", ALL + "disallow: /"), 1);
        DUE.is("not allowed", Due.allowed(x, "http://s/"), 0);
        DUE.is("told others: these alone are there then", Due.rules(x, "http://s/", ALL + "disallow: /x"), 1);
        DUE.is("allowed", Due.allowed(x, "http://s/"), 1);
        DUE.is("told empty ones", Due.rules(x, "http://s/", ""), 0);
        DUE.is("allowed", Due.allowed(x, "http://s/x"), 1);
        DUE.is("told an allow, too", Due.rules(x, "http://s/", ALL + "disallow: /\nallow: /x"), 2);
        DUE.is("allowed", Due.allowed(x, "http://s/x"), 1);
        DUE.is("told none", Due.rules(x, "http://s/", ALL + "disallow: /"), 1);
        DUE.is("not allowed", Due.allowed(x, "http://s/x"), 0);
    }

    private static void hashes() {
        DUE.of("Of each of its lines, all from the first # on goes");
        holds(ALL + "allow: /a#b", 1);
        holds(ALL + "allow: #/a", 0);
        holds(ALL + "allow:#", 0);
        holds(ALL + "allow#: /a", 0);
        holds(ALL + "#allow: /a", 0);
        holds("user-agent: *#finder\nallow: /a", 1);
        holds("#\n" + ALL + "#\n#\nallow: /a\n#", 1);
        matches("/a#b", "/a", true);
        matches("/a #b", "/ab", true);
        matches("/a##", "/a", true);
    }

    private static void colons() {
        DUE.of("lines without a : are passed over; of the others the KEY is what is before the first :, trimmed and "
            + "lower, the VALUE what is behind, trimmed.");
        holds(ALL + "allow /a", 0);
        holds(ALL + "allow", 0);
        holds(ALL + "allow:", 0);
        holds(ALL + "allow:/", 1);
        holds(ALL + ":allow: /a", 0);
        holds(ALL + ": /a", 0);
        holds(ALL + ":", 0);
        holds(ALL + "allow :: /a", 1);
        matches(":", "/", false);
        matches("/a:b:c", "/a:b:cd", true);
        matches("/a:b", "/a", false);
    }

    private static void keys() {
        DUE.of("the KEY is what is before the first :, trimmed and lower");
        holds("USER-AGENT: *\nALLOW: /a\nDISALLOW: /b", 2);
        holds("User-Agent: *\nAllow: /a\nDisAllow: /b", 2);
        holds("user_agent: *\nallow: /a", 0);
        holds("useragent: *\nallow: /a", 0);
        holds("user\ragent: *\nallow: /a", 0);
        holds("user agent: *\nallow: /a", 0);
        holds(ALL + "allo: /a\nallows: /a\nllow: /a\nal low: /a\ndis allow: /a", 0);
        matches("/A", "/a", false);
        matches("/A", "/A", true);
    }

    private static void trimmed() {
        DUE.of("TRIMMED: without blanks at both ends.");
        for (int value = 0; value < 256; value++) {
            boolean blank = value == 32 || value == 9 || value == 10 || value == 12 || value == 13;
            char c = (char) value;
            if (c == 10 || c == '#' || c == ':') {
                continue;
            }
            holds(ALL + c + "allow" + c + ": /a", blank ? 1 : 0);
            holds("user-agent:" + c + "*" + c + "\nallow: /a", blank ? 1 : 0);
            holds(ALL + "allow:" + c, blank ? 0 : 1);
        }
        matches("\t\f /a \f\t\r", "/a$b", true);
        matches("/a b", "/a", false);
    }

    private static void otherKeys() {
        DUE.of("Lines with other keys than user-agent, allow and disallow are passed over, too.");
        holds(ALL + "sitemap: /a\ncrawl-delay: 9\nhost: s\nallow: /a", 1);
        holds("sitemap: *\nallow: /a", 0);
    }

    private static void groupsOfAgents() {
        DUE.of("A GROUP are one or more lines of user-agent, one behind the other, and the lines of allow and disallow "
            + "behind them, up to the next user-agent.");
        holds(ALL + "allow: /a", 1);
        holds(ALL, 0);
        holds(ALL + ALL + "allow: /a", 1);
        holds(ALL + "user-agent: x\nallow: /a", 1);
        holds("user-agent: x\n" + ALL + "allow: /a\ndisallow: /b", 2);
        holds("user-agent: x\nuser-agent: y\n" + ALL + "user-agent: z\nallow: /a", 1);
        holds(ALL + "allow: /a\nuser-agent: x\nallow: /b", 1);
        holds("user-agent: x\nallow: /b\n" + ALL + "allow: /a", 1);
        holds(ALL + "allow: /a\nuser-agent: x\nallow: /b\n" + ALL + "allow: /c", 2);
        holds(ALL + "allow:\nuser-agent: x\nallow: /a", 0);
        holds(ALL + "disallow: \nuser-agent: x\nallow: /a", 0);
    }

    private static void beforeTheFirstAgent() {
        DUE.of("(Those before the first user-agent are of none; lines that are passed over part nothing.)");
        holds("allow: /a", 0);
        holds("allow: /a\ndisallow: /b\n" + ALL, 0);
        holds("disallow: /\n" + ALL + "allow: /a", 1);
        allows("disallow: /\n" + ALL, "/", true);
    }

    private static void passedOverLinesPartNothing() {
        DUE.of("(Those before the first user-agent are of none; lines that are passed over part nothing.)");
        holds(ALL + "\nuser-agent: x\nallow: /a", 1);
        holds(ALL + "sitemap: /x\nuser-agent: x\nallow: /a", 1);
        holds(ALL + "# x\nno colon\n\r\nuser-agent: x\n\nallow: /a\n\nsitemap: y\nallow: /b", 2);
        holds(ALL + "allow /a\nuser-agent: x\nallow: /b", 1);
        holds(ALL + "allow\nuser-agent: x\nallow: /b", 1);
        holds(ALL + "disallow#:\nuser-agent: x\nallow: /b", 1);
        holds(ALL + "allow: /a\nuser-agent\nallow: /b", 2);
        holds(ALL + "allow: /a\nuser-agent # : x\nallow: /b", 2);
        holds(ALL + "allow: /a\nsitemap: /x\nallow: /b", 2);
    }

    private static void finderBeforeAll() {
        DUE.of("The rules that HOLD are those of all groups that have a line of user-agent with, lower, finder; if there "
            + "is none such, of all that have one with *.");
        String finder = "user-agent: finder\n";
        holds(finder + "allow: /a\n" + ALL + "allow: /b\nallow: /c", 1);
        holds(ALL + "allow: /b\nallow: /c\n" + finder + "allow: /a", 1);
        holds(finder + "allow: /a\n" + ALL + "allow: /b\n" + finder + "allow: /c\ndisallow: /d", 3);
        holds(finder + ALL + "allow: /a\n" + ALL + "allow: /b", 1);
        holds(ALL + "allow: /a\n" + ALL + "allow: /b", 2);
        holds("user-agent: x\nallow: /a", 0);
        holds(ALL + "allow: /a\n" + finder, 0);
        holds(ALL + "allow: /a\n" + finder + "allow:", 0);
        holds(finder + "user-agent: x\nallow: /a", 1);
        allows(ALL + "disallow: /\n" + finder + "allow: /a", "/b", true);
    }

    private static void agentNames() {
        DUE.of("a line of user-agent with, lower, finder");
        for (String agent : new String[] {"finder", "FINDER", "Finder", " fINDER\t"}) {
            holds("user-agent:" + agent + "\nallow: /a\n" + ALL, 1);
        }
        String[] others = {"finde", "finders", "finder/1", "webfinder", "find er", "", "**", "*finder", "finder*", "/"};
        for (String agent : others) {
            holds("user-agent: " + agent + "\nallow: /a\n" + ALL, 0);
        }
    }

    private static void emptyPatterns() {
        DUE.of("A rule's PATTERN is its value, with 6 above done where % has its two; one that is empty does not count.");
        holds(ALL + "disallow:", 0);
        holds(ALL + "disallow: \t\f\r\nallow: # x\nallow:x", 1);
        allows(ALL + "disallow:", "/", true);
        allows(ALL + "disallow:\nallow:", "/", true);
        allows(ALL + "disallow: /\nallow:", "/", false);
    }

    private static void patternEscapes() {
        DUE.of("A rule's PATTERN is its value, with 6 above done where % has its two");
        matches("/%61", "/a", true);
        matches("/%41", "/a", false);
        matches("/%7e%2d%2E%5F", "/~-._", true);
        matches("/%2f", "/%2F", true);
        matches("/%2F", "/x", false);
        matches("/%c3", "/%C3", true);
        matches("/%", "/x", false);
        matches("/%4", "/%4a", false);
        matches("/%4g", "/%4F", false);
        matches("/*%4", "/%41", false);
        matches("/*%4", "/%25", false);
        matches("/%2", "/%2F", true);
        matches("/%", "/%2F", true);
        matches("/%%61", "/%2F", false);
        matches("/%2a", "/*", false);
        matches("/%2a", "/%2A", true);
        matches("/x%24", "/x", false);
        matches("/x%24", "/x%24y", true);
        matches("/%2541", "/%2541", true);
        matches("/%2541", "/A", false);
    }

    private static void stars() {
        DUE.of("A * in it stands for any bytes, perhaps none");
        matches("*", "/", true);
        matches("/*", "/", true);
        matches("/a*b", "/ab", true);
        matches("/a*b", "/axb", true);
        matches("/a*b", "/a/x?yb", true);
        matches("/a*b", "/a", false);
        matches("/a*b", "/b", false);
        matches("/a*b", "/xab", false);
        matches("*a", "/xxa", true);
        matches("*a", "/xx", false);
        matches("*/", "/", true);
        matches("**", "/", true);
        matches("/a**b", "/ab", true);
        matches("/a*b*c", "/abc", true);
        matches("/a*b*c", "/acb", false);
        matches("/a*aab", "/aaab", true);
        matches("/a*aab", "/aab", false);
        matches("/*ab*ab", "/abxab", true);
        matches("/*ab*ab", "/ab", false);
        matches("/*ab*ab", "/abab", true);
        matches("/a*", "/a", true);
    }

    private static void ends() {
        DUE.of("a $ at its end for the end.");
        matches("/$", "/", true);
        matches("/$", "/a", false);
        matches("/$", "/?", false);
        matches("/a$", "/a", true);
        matches("/a$", "/ab", false);
        matches("$", "/", false);
        matches("$", "/$", false);
        matches("*$", "/", true);
        matches("*$", "/a?b", true);
        matches("/a*$", "/abc", true);
        matches("/*b$", "/bab", true);
        matches("/*b$", "/ba", false);
        matches("/a*a$", "/a", false);
        matches("/a*a$", "/aa", true);
        matches("/ab*ba$", "/aba", false);
        matches("/*a*a$", "/a", false);
        matches("/*a*a$", "/aa", true);
        matches("/$a", "/$ab", true);
        matches("/$a", "/", false);
        matches("/$$", "/$", true);
        matches("/$$", "/$$", false);
        matches("/$*", "/$x", true);
        matches("/$*", "/", false);
        matches("/a?$", "/a?", true);
        matches("/a?$", "/a?b", false);
        matches("/a$ ", "/a", true);
        matches("/a$ # x", "/ab", false);
    }

    private static void begins() {
        DUE.of("It MATCHES an address if the path and the query (with ?) of this begin with what it stands for.");
        matches("/", "/", true);
        matches("/", "/a?b", true);
        matches("/a", "/", false);
        matches("/a", "/a", true);
        matches("/a", "/ab", true);
        matches("/ab", "/a", false);
        matches("a", "/a", false);
        matches("/a?", "/a", false);
        matches("/a?", "/a?", true);
        matches("/?b", "/?bc", true);
        matches("?", "/?", false);
        matches("http://s/", "/", false);
        matches("s/", "/", false);
        matches("/" + "p".repeat(191), "/" + "p".repeat(191), true);
        matches("/" + "p".repeat(192), "/" + "p".repeat(191), false);
        matches("/" + "p".repeat(500), "/" + "p".repeat(191), false);
        matches("/" + "*p".repeat(191) + "$", "/" + "p".repeat(191), true);
        matches("/" + "*p".repeat(192), "/" + "p".repeat(191), false);
    }

    private static void longest() {
        DUE.of("An address is ALLOWED when no rule that holds matches, or an allow is among those of the longest "
            + "patterns (in bytes) that match.");
        allows(ALL + "allow: /x", "/a", true);
        allows(ALL + "disallow: /x", "/a", true);
        allows(ALL + "allow: /a\ndisallow: /a", "/a", true);
        allows(ALL + "disallow: /a\nallow: /a", "/a", true);
        allows(ALL + "disallow: /a\nallow: /", "/a", false);
        allows(ALL + "allow: /\ndisallow: /a", "/a", false);
        allows(ALL + "disallow: /\nallow: /a", "/a", true);
        allows(ALL + "disallow: /ab\nallow: /a*", "/ab", true);
        allows(ALL + "disallow: /ab*\nallow: /ab", "/ab", false);
        allows(ALL + "disallow: /ab\nallow: /a$", "/ab", false);
        allows(ALL + "disallow: /a\nallow: /a$", "/a", true);
        allows(ALL + "disallow: /a$\nallow: /a", "/a", false);
        allows(ALL + "disallow: /abc\nallow: /%61%62", "/abc", false);
        allows(ALL + "disallow: /ab\nallow: /%2f", "/ab", false);
        allows(ALL + "disallow: /aaaa\nallow: /b", "/b", true);
        allows(ALL + "disallow: /a\ndisallow: /a\nallow: /a\ndisallow: /a", "/a", true);
    }

    private static void manyPatterns() {
        DUE.of("or an allow is among those of the longest patterns (in bytes) that match.");
        String text = ALL + "disallow: /x\ndisallow: /abc$\ndisallow: /a*d\ndisallow: /e*f$\n"
            + "allow: /y\nallow: /abcd*e\nallow: /e*ff$";
        String[] not = {"/x", "/abc", "/ad", "/a/bd", "/ef", "/e/f", "/abcd"};
        String[] all = {"/", "/y", "/abc?", "/ab", "/abcde", "/abcd/de", "/a", "/e", "/efg", "/eff", "/e/ff"};
        for (String path : not) {
            allows(text, path, false);
        }
        for (String path : all) {
            allows(text, path, true);
        }
    }

    private static void rulesCounted() {
        DUE.of("Answers how many rules hold for it (those that do not count not counted)");
        holds("", 0);
        holds(ALL, 0);
        holds(ALL + "allow:\ndisallow: #\n", 0);
        holds(ALL + "allow: /\nallow:\ndisallow: /", 2);
        holds(ALL + "allow: /\nallow: /\nallow: /", 3);
        holds(ALL + "allow: never\ndisallow: $", 2);
        holds("user-agent: x\nallow: /\n" + ALL + "allow: /", 1);
        holds(ALL + "allow:/a\ndisallow:/b\n".repeat(350), 700);
    }

    private static void ruleLines() {
        DUE.of("A LINE of a text goes up to the first 10, or to its end, without that 10 and a 13 just before it.");
        holds("user-agent: *\r\nallow: /a\r\ndisallow: /b\r\n", 2);
        holds("user-agent: *\n\n\nallow: /a", 1);
        holds("user-agent: *\rallow: /a", 0);
        holds("user-agent: *\n\rallow: /a\r\r\n", 1);
        holds("\n" + ALL + "allow: /a\n\n", 1);
        holds(ALL + "allow: /a\fdisallow: /b", 1);
        matches("/a$\r", "/a", true);
    }

    private static void rulesOfTheLine() {
        DUE.of("its first line is read without a base, what is behind its first 10 is the rules' text of that address's "
            + "site.");
        Finder x = new Finder();
        DUE.is("any address of it", Due.rules(x, " HTTP://S:080/x/y?z#w \r", ALL + "disallow: /x"), 1);
        DUE.is("allowed", Due.allowed(x, "http://s/y"), 1);
        DUE.is("not allowed", Due.allowed(x, "http://s/x"), 0);
        Due.tape(x, "http://s/");
        DUE.is("without a 10 the text is empty", x.rules(), 0);
        DUE.is("allowed", Due.allowed(x, "http://s/x"), 1);
    }

    private static Finder withTwelve() {
        Finder x = new Finder();
        for (int i = 1; i <= 12; i++) {
            int due = i % 3 == 0 ? 0 : 1;
            DUE.is("site " + i, Due.rules(x, "http://s:" + i + "/", due == 0 ? "" : ALL + "disallow: /"), due);
        }
        return x;
    }

    private static void twelveSites() {
        DUE.of("NONE when nothing comes of the line, or 12 other sites were told rules (also empty ones).");
        Finder x = withTwelve();
        DUE.is("a 13th", Due.rules(x, "http://s:13/", ALL + "disallow: /"), -1);
        DUE.is("the tape", x.end(0), 0);
        DUE.is("a 13th, empty", Due.rules(x, "http://s/", ""), -1);
        DUE.is("the first again", Due.rules(x, "http://s:1/", ALL + "disallow: /x\nallow: /y"), 2);
        DUE.is("the last again", Due.rules(x, "http://s:12/", ALL + "disallow: /"), 1);
        DUE.is("an empty one again", Due.rules(x, "http://s:3/", ALL + "disallow: /"), 1);
        DUE.is("one becomes empty", Due.rules(x, "http://s:2/", ""), 0);
        DUE.is("and is told all the same", Due.rules(x, "http://s:13/", ""), -1);
    }

    private static void refusedSites() {
        DUE.of("Other calls that are refused change nothing; one that throws neither.");
        Finder x = withTwelve();
        Due.rules(x, "http://s:13/", ALL + "disallow: /");
        DUE.is("the 13th has no rules", Due.allowed(x, "http://s:13/"), 1);
        for (int i = 1; i <= 12; i++) {
            DUE.is("site " + i + " has its own", Due.allowed(x, "http://s:" + i + "/"), i % 3 == 0 ? 1 : 0);
        }
        Finder y = new Finder();
        for (int i = 0; i < 13; i++) {
            DUE.is("nothing", Due.rules(y, i % 2 == 0 ? "s:" + i : "", ALL + "disallow: /"), -1);
            DUE.is("the tape", y.end(0), 0);
        }
        DUE.is("those that were nothing do not count as sites", Due.rules(y, "http://s/", ALL + "disallow: /"), 1);
    }

    private static void allowedOfNothing() {
        DUE.of("Answers whether that address is allowed (1) or not (0); NONE when nothing comes of it.");
        Finder x = new Finder();
        Due.rules(x, "http://s/", ALL + "disallow: /x");
        DUE.is("1", Due.allowed(x, "http://s/"), 1);
        DUE.is("0", Due.allowed(x, "http://s/x"), 0);
        DUE.is("blanks at both ends", Due.allowed(x, "\r\nhttp://s/x\r\n"), 0);
        for (String tape : new String[] {"", "\n", "s", "/x", "//", "https://s/", "http://s/x\nhttp://s/x", "http://s/ x"}) {
            DUE.is("nothing: " + tape, Due.allowed(x, tape), -1);
            DUE.is("the tape", x.end(0), 0);
        }
        DUE.is("still 0", Due.allowed(x, "http://s/x"), 0);
    }
}
