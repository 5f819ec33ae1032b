/** The edges of promises 5, 6 and 9, and of PAGES. */
public final class PageEdgesTest {
    private static final Due DUE = new Due();
    private static final String BLANKS = " \t\n\f\r";
    private static final String[] NAMES = {"script", "style"};

    public static void main(String[] args) {
        statuses();
        pagesOfNothing();
        sixtyPages();
        pageTakesTheNewText();
        drops();
        dropsOfNone();
        longRemarks();
        tagBeginnings();
        closingTagBeginnings();
        otherRemarks();
        tagNames();
        attributeNames();
        attributeNamesOfOneByte();
        values();
        quotedValues();
        noValues();
        firstOfTwo();
        cutTags();
        rawTexts();
        rawTextNames();
        namedBytes();
        numberedBytes();
        digitsOfNumbers();
        bytesAreNotLookedAtAgain();
        bases();
        basesThatAreNothing();
        linkTags();
        sixtyLinks();
        eachLinkOnce();
        wordBytes();
        lowerBytes();
        twentyBytes();
        wordsEnd();
        lookRefuses();
        DUE.end("PageEdgesTest");
    }

    private static void links(String text, String want) {
        DUE.is("links of " + text, Due.look(0, "http://h/p/q", text).replace("http://h/p/", "~"), want);
    }

    private static void words(String text, String want) {
        DUE.is("words of " + text, Due.look(1, "http://h/p/q", text), want);
    }

    private static boolean isBlank(char c) {
        return BLANKS.indexOf(c) >= 0;
    }

    private static boolean isLetter(char c) {
        return c >= 'a' && c <= 'z' || c >= 'A' && c <= 'Z';
    }

    private static boolean isDigit(char c) {
        return c >= '0' && c <= '9';
    }

    private static char lower(char c) {
        return c >= 'A' && c <= 'Z' ? (char) (c + 32) : c;
    }

    private static void statuses() {
        DUE.of("NONE when the status is not 100 .. 599, nothing comes of the line, or there are 60 pages already and "
            + "this is not one of them.");
        Finder x = new Finder();
        int pages = 0;
        for (int status : new int[] {100, 101, 199, 200, 299, 300, 399, 400, 598, 599}) {
            pages++;
            DUE.is("status " + status, Due.page(x, status, "http://a/" + status, "x"), pages);
        }
        for (int status : new int[] {99, 600, 0, -1, 601, -200, 200 + 65536, Integer.MIN_VALUE, Integer.MAX_VALUE}) {
            DUE.is("status " + status, Due.page(x, status, "http://a/" + status, "x"), -1);
            DUE.is("the tape", x.end(0), 0);
            DUE.is("count", x.count(0), pages);
            DUE.is("there is no such page", Due.drop(x, "http://a/" + status), false);
        }
    }

    private static void pagesOfNothing() {
        DUE.of("Uses the tape: its first line is read without a base, what is behind its first 10 is the text of that "
            + "address's page from now on.");
        Finder x = new Finder();
        for (String line : new String[] {"", "a", "/a", "//", "https://a/", "http://a/ b", "?", "http://a/%"}) {
            DUE.is("nothing: " + line, Due.page(x, 200, line, "http://a/"), -1);
            DUE.is("the tape", x.end(0), 0);
        }
        DUE.is("count", x.count(0), 0);
        DUE.is("an address", Due.page(x, 200, " //a:80#x \r", ""), 1);
        Due.tape(x, "http://b/");
        DUE.is("without a 10", x.page(200), 2);
        DUE.is("a", Due.drop(x, "http://a/"), true);
        DUE.is("b", Due.drop(x, "http://b/"), true);
    }

    private static Finder withSixty() {
        Finder x = new Finder();
        for (int i = 1; i <= 60; i++) {
            DUE.is("page " + i, Due.page(x, 404, "http://a/" + i, ""), i);
        }
        return x;
    }

    private static void sixtyPages() {
        DUE.of("NONE when the status is not 100 .. 599, nothing comes of the line, or there are 60 pages already and "
            + "this is not one of them.");
        Finder x = withSixty();
        DUE.is("a 61st", Due.page(x, 200, "http://a/61", "x"), -1);
        DUE.is("the tape", x.end(0), 0);
        DUE.is("count", x.count(0), 60);
        DUE.is("it is not there", Due.drop(x, "http://a/61"), false);
        DUE.is("the first again", Due.page(x, 200, "http://a/1", "x"), 60);
        DUE.is("the last again", Due.page(x, 200, "http://a/60", "x"), 60);
        DUE.is("one of them with a wrong status", Due.page(x, 600, "http://a/1", "x"), -1);
        DUE.is("one goes", Due.drop(x, "http://a/30"), true);
        DUE.is("count", x.count(0), 59);
        DUE.is("there is room for one", Due.page(x, 200, "http://a/61", "x"), 60);
        DUE.is("and not for two", Due.page(x, 200, "http://a/30", "x"), -1);
        Due.seed(x, "http://a/1");
        Due.seed(x, "http://a/60");
        Due.seed(x, "http://a/30");
        Due.seed(x, "http://a/61");
        Due.seed(x, "http://a/59");
        x.start();
        x.run(9);
        DUE.is("what each of them is", Due.states(x), "2 2 5 2 5 ");
    }

    private static void pageTakesTheNewText() {
        DUE.of("what is behind its first 10 is the text of that address's page from now on.");
        Finder x = new Finder();
        Due.page(x, 200, "http://a/", "one two three");
        Due.seed(x, "http://a/");
        DUE.is("the same address", Due.page(x, 200, "HTTP://A:80", "four"), 1);
        x.start();
        x.run(1);
        x.find(0);
        DUE.is("words", x.document(0, 5), 1);
        DUE.is("a refused status leaves the text", Due.page(x, 99, "http://a/", "five six"), -1);
        x.start();
        x.run(1);
        x.find(0);
        DUE.is("words", x.document(0, 5), 1);
        DUE.is("ask", Due.ask(x, 0, "four"), 1);
        DUE.is("another status", Due.page(x, 500, "http://a/", "four"), 1);
        x.start();
        DUE.is("is there", x.step(), 5);
        DUE.is("an empty text", Due.page(x, 200, "http://a/", ""), 1);
        x.start();
        x.run(1);
        DUE.is("find", x.find(0), 1);
        DUE.is("words", x.document(0, 5), 0);
    }

    private static void drops() {
        DUE.of("Uses the tape, which is read without a base: the page of that address goes. Answers whether there was "
            + "one.");
        Finder x = new Finder();
        for (int i = 0; i < 3; i++) {
            Due.page(x, 200, "http://a/" + i, "" + i);
        }
        DUE.is("the first", Due.drop(x, "http://a/0"), true);
        DUE.is("again", Due.drop(x, "http://a/0"), false);
        DUE.is("count", x.count(0), 2);
        DUE.is("the last", Due.drop(x, "\thttp://A:80/2#x\r\n"), true);
        DUE.is("count", x.count(0), 1);
        DUE.is("the middle one", Due.drop(x, "http://a/1"), true);
        DUE.is("count", x.count(0), 0);
        DUE.is("none", Due.drop(x, "http://a/1"), false);
        DUE.is("told again", Due.page(x, 200, "http://a/1", "x"), 1);
        DUE.is("goes again", Due.drop(x, "http://a/1"), true);
    }

    private static void dropsOfNone() {
        DUE.of("the page of that address goes. Answers whether there was one.");
        Finder x = new Finder();
        Due.page(x, 200, "http://a/", "x");
        String[] others = {"", "a", "http://a/\nx", "http://a/?", "http://a//", "http://a:81/", "http://b/", "http://"};
        for (String tape : others) {
            DUE.is("drop " + tape, Due.drop(x, tape), false);
            DUE.is("the tape", x.end(0), 0);
            DUE.is("count", x.count(0), 1);
        }
    }

    private static void longRemarks() {
        DUE.of("<!-- and all up to the next --> (behind these four bytes), or to the end, is a REMARK.");
        words("a<!--b-->c", "a,c,");
        words("a<!---->c", "a,c,");
        words("a<!--->b-->c", "a,c,");
        words("a<!-->b-->c", "a,c,");
        words("a<!--b--->c", "a,c,");
        words("a<!--b-- >c", "a,");
        words("a<!--b->c", "a,");
        words("a<!--b", "a,");
        words("a<!--b-", "a,");
        words("a<!--b--", "a,");
        words("a<!--b-->", "a,");
        words("a<!--", "a,");
        words("a<!--b<!--c-->d-->e", "a,d,e,");
        words("a<!--'-->b'-->c", "a,b,c,");
        links("<!--<a href=x>--><a href=y>", "~y,");
    }

    private static void tagBeginnings() {
        DUE.of("< and a letter, or </ and a letter, begin a TAG");
        for (char c = 0; c < 256; c++) {
            String want = isDigit(c) ? "a," + c + "b,c," : isLetter(c) || "!?/<".indexOf(c) >= 0 ? "a,c," : "a,b,c,";
            words("a<" + c + "b>c", want);
        }
        words("a<", "a,");
        words("a<<", "a,");
        words("a<b>", "a,");
    }

    private static void closingTagBeginnings() {
        DUE.of("Any other < followed by !, ? or / begins a remark, up to the next >, or the end.");
        for (char c = 0; c < 256; c++) {
            // A quoted > does not end a tag, but ends a remark.
            String want = c == '>' ? "a,b,x,d,e," : isLetter(c) ? "a,e," : "a,d,e,";
            words("a</" + c + "b x='>d'>e", want);
        }
        words("a</", "a,");
        words("a</b", "a,");
    }

    private static void otherRemarks() {
        DUE.of("Any other < followed by !, ? or / begins a remark, up to the next >, or the end.");
        words("a<!b>c", "a,c,");
        words("a<!-b-->c", "a,c,");
        words("a<!>c", "a,c,");
        words("a<!->c", "a,c,");
        words("a<?b>c", "a,c,");
        words("a<?>c", "a,c,");
        words("a</>c", "a,c,");
        words("a</ b>c", "a,c,");
        words("a<!b", "a,");
        words("a<!", "a,");
        words("a<!-", "a,");
        words("a<?", "a,");
        words("a<!b'>c'>d", "a,c,d,");
        words("a< !b>c", "a,b,c,");
    }

    private static void tagNames() {
        DUE.of("its NAME goes up to the next blank, / or >, or the end, and is lower.");
        for (char c = 0; c < 256; c++) {
            links("<A" + c + "href=x>", isBlank(c) || c == '/' ? "~x," : "");
            links("<a" + c + ">", "");
        }
        links("<a href=x", "");
        links("<a", "");
        links("<aa href=x><base2 href=y><a-b href=x>", "");
        // A = or a quote in a name is of the name, so the > behind it ends the tag.
        words("a<b='>c'>d", "a,c,d,");
        words("a</b='>c'>d", "a,c,d,");
        words("a</b x='>c'>d", "a,d,");
        links("<BASE href=r/><A href=x>", "~r/x,");
    }

    private static void attributeNames() {
        DUE.of("an ATTRIBUTE: its name, one byte at least, up to the next blank, /, > or =, lower");
        for (char c = 0; c < 256; c++) {
            String want = c == '=' ? "~=x," : c == '/' || c == '>' ? "~q," : isBlank(c) ? "~x," : "";
            links("<a hREf" + c + "=x>", want);
            links("<a " + c + "HREF=x>", isBlank(c) || c == '/' ? "~x," : "");
        }
        links("<a ///href=x>", "~x,");
        links("<a / \t\n\f\r/ href=x>", "~x,");
        links("<a hre=x hreff=y>", "");
    }

    private static void attributeNamesOfOneByte() {
        DUE.of("its name, one byte at least, up to the next blank, /, > or =, lower");
        links("<a =href=x>", "");
        links("<a = href=x>", "~x,");
        links("<a =/href=x>", "~x,");
        links("<a =>", "");
        links("<a == href=x>", "");
        links("<a ===href href=x>", "~x,");
        links("<a \"href=x>", "");
        links("<a ' href=x>", "~x,");
        links("<a x='y'href=x>", "~x,");
        links("<a x='y'=href=x>", "");
    }

    private static void values() {
        DUE.of("if not that, up to the next blank or >, or the end");
        for (char c : (BLANKS + ">").toCharArray()) {
            links("<a href=x" + c + "y>", "~x,");
        }
        links("<a href=x/y>", "~x/y,");
        links("<a href=x/>", "~x/,");
        links("<a href=x=y>", "~x=y,");
        links("<a href=x'y>", "~x'y,");
        links("<a href=x\"y>", "");
        links("<a href=x\u000by>", "");
        links("<a href=x<y>", "");
        links("<a href=>", "~q,");
        links("<a href= >", "~q,");
        links("<a href=/>", "http://h/,");
        links("<a href \t\n\f\r= \t\n\f\rx>", "~x,");
        links("<a href= x>", "~x,");
        links("<a href =x y>", "~x,");
        links("<a href=x", "");
        links("<a href=", "");
        links("<a href= ", "");
    }

    private static void quotedValues() {
        DUE.of("and (likewise) a \" or ', its value goes up to the next byte of that same sort, or the end");
        links("<a href='x'>", "~x,");
        links("<a href=\"x\">", "~x,");
        links("<a href=''>", "~q,");
        links("<a href=\"\">", "~q,");
        links("<a href = 'x'>", "~x,");
        links("<a href= \n\"x\">", "~x,");
        links("<a href=\"x'y\">", "~x'y,");
        links("<a href='x\"y'>", "");
        links("<a href=' x\n'>", "~x,");
        links("<a x='>' href=y>", "~y,");
        links("<a x='/' href='y' z>", "~y,");
        links("<a x='' href=y>", "~y,");
        links("<a x=\"' href=y>'\" href=z>", "~z,");
        links("<a href='x>", "");
        links("<a href='x\">", "");
        links("<a href='x'", "");
        links("<a href='", "");
        words("a<b c='d>e", "a,");
        words("a<b c='d>'e>f", "a,f,");
    }

    private static void noValues() {
        DUE.of("without a = it is empty.");
        links("<a href>", "~q,");
        links("<a href >", "~q,");
        links("<a href/>", "~q,");
        links("<a href x=y>", "~q,");
        links("<a x href=y>", "~y,");
        links("<a href 'x'>", "~q,");
        links("<a>", "");
    }

    private static void firstOfTwo() {
        DUE.of("(Of two with the same name in a tag the first one counts.)");
        links("<a href=x href=y>", "~x,");
        links("<a HREF=x href=y>", "~x,");
        links("<a href href=y>", "~q,");
        links("<a href='<' href=y>", "");
        links("<a href=x><a href=y>", "~x,~y,");
        links("<base href='<' href=r/><a href=x>", "~x,");
    }

    private static void cutTags() {
        DUE.of("The > ends the tag; a tag that the end of the text ends counts for nothing (its bytes are not plain "
            + "either).");
        String tag = "<a b c=d e = 'f' / href=\"x\" g >";
        for (int length = 2; length < tag.length(); length++) {
            words("w " + tag.substring(0, length), "w,");
            links(tag.substring(0, length), "");
            links("<a href=y>" + tag.substring(0, length), "~y,");
        }
        links(tag, "~x,");
        links("<a href=y><base href=r/", "~y,");
        words("w<script", "w,");
        words("w</script", "w,");
        words("w <a b=\"c> d", "w,");
    }

    private static void rawTexts() {
        DUE.of("all is a remark, up to </ and, in any case, that name, with a blank, a / or a > behind (from there on it "
            + "goes on as ever), or the end.");
        for (String name : NAMES) {
            for (char c = 0; c < 256; c++) {
                String want = c == '>' ? "a,x,c," : isBlank(c) || c == '/' ? "a,c," : "a,";
                words("a<" + name + ">b</" + name + c + "x>c", want);
            }
            String mixed = name.substring(0, 2).toUpperCase() + name.substring(2);
            words("a<" + name + ">b</" + mixed + ">c", "a,c,");
            words("a<" + mixed + ">b</" + name + ">c", "a,c,");
            words("a<" + name + ">b", "a,");
            words("a<" + name + ">", "a,");
            words("a<" + name + ">b</" + name, "a,");
            words("a<" + name + "></" + name + ">c", "a,c,");
            words("a<" + name + ">b</ " + name + ">c", "a,");
            words("a<" + name + ">b<" + name + ">c</" + name + ">d", "a,d,");
            words("a<" + name + ">b<!--c</" + name + ">d-->e", "a,d,e,");
            words("a<" + name + ">'b</" + name + ">c'", "a,c,");
            words("a<" + name + ">b</</" + name + ">c", "a,c,");
            words("a<" + name + ">b</" + name + " x='>c'>d", "a,d,");
            links("<" + name + "><a href=x></" + name + "><a href=y>", "~y,");
            links("<" + name + "><base href=r/></" + name + "><a href=y>", "~y,");
        }
        words("a<script>b</style>c</script>d", "a,d,");
        words("a<style>b</script>c</style>d", "a,d,");
    }

    private static void rawTextNames() {
        DUE.of("Behind a tag with < and the name script or style all is a remark");
        for (String name : NAMES) {
            words("a</" + name + ">b", "a,b,");
            words("a<" + name + "x>b", "a,b,");
            words("a<x" + name + ">b", "a,b,");
            words("a<" + name.substring(1) + ">b", "a,b,");
            words("a<" + name + "/>b</" + name + ">c", "a,c,");
            words("a<" + name + " x='>'>b</" + name + ">c", "a,c,");
        }
    }

    private static void namedBytes() {
        DUE.of("& and one of amp; lt; gt; quot; apos; is & < > \" or '.");
        links("<a href='x&amp;'><a href='x&apos;'>", "~x&,~x',");
        links("<a href=\"x&apos;y\">", "~x'y,");
        links("<a href='x&lt;'><a href='x&gt;'><a href='x&quot;'>", "");
        for (String name : new String[] {"amp", "lt", "gt", "quot", "apos"}) {
            links("<a href='x&" + name + "'>", "~x&" + name + ",");
            links("<a href='x&" + name + "y;'>", "~x&" + name + "y;,");
            links("<a href='x&" + name.toUpperCase() + ";'>", "~x&" + name.toUpperCase() + ";,");
            links("<a href='x&" + name.substring(1) + ";'>", "~x&" + name.substring(1) + ";,");
            for (int i = 0; i < name.length(); i++) {
                String other = name.substring(0, i) + "x" + name.substring(i + 1);
                links("<a href='x&" + other + ";'>", "~x&" + other + ";,");
            }
            words("a&" + name + ";b", "a,b,");
            words("a&" + name, "a," + name + ",");
            words("a&" + name + " ;b", "a," + name + ",b,");
        }
        links("<a href='&;'><a href='&'><a href='&&amp;;'>", "~&;,~&,~&&;,");
        links("<a href='x&nbsp;'>", "~x&nbsp;,");
    }

    private static void numberedBytes() {
        DUE.of("are the byte of that number, if it is 32 .. 126, else a blank.");
        for (int value = 0; value < 300; value++) {
            char c = (char) value;
            boolean inWord = value < 127 && (isLetter(c) || isDigit(c));
            String want = inWord ? "a" + lower(c) + "b," : "a,b,";
            words("a&#" + value + ";b", want);
            words("a&#x" + Integer.toHexString(value) + ";b", want);
        }
        links("<a href='x&#32;'><a href='y&#31;'><a href='z&#127;'><a href='w&#0;'>", "~x,~y,~z,~w,");
        links("<a href='x&#33;'><a href='y&#126;'>", "~x!,~y~,");
        links("<a href='x&#31;y'><a href='x&#127;y'>", "");
        for (String number : new String[] {"321", "65601", "999999", "x141", "x10041", "xffffff", "XFFFFFF"}) {
            words("a&#" + number + ";b", "a,b,");
            links("<a href='x&#" + number + ";'>", "~x,");
        }
    }

    private static void digitsOfNumbers() {
        DUE.of("&# and one to six digits and ;, &#x or &#X and one to six of 0-9, a-f, A-F and ;, are the byte of that "
            + "number");
        String zeros = "0000";
        for (int n = 0; n <= 4; n++) {
            words("&#" + zeros.substring(0, n) + "65;", "a,");
            words("&#x" + zeros.substring(0, n) + "41;", "a,");
        }
        words("&#0000065;", "0000065,");
        words("&#x0000041;", "x0000041,");
        words("b&#9;c&#x9;d", "b,c,d,");
        words("b&#;c&#x;d&#X;e", "b,c,x,d,x,e,");
        words("&#65", "65,");
        words("&#x41", "x41,");
        words("&#65 ;", "65,");
        words("& #65;&# 65;&#x 41;&#-65;&#+65;", "65,65,x,41,65,65,");
        for (char c : "/:@G`g".toCharArray()) {
            words("b&#6" + c + ";", isLetter(c) ? "b,6g," : "b,6,");
            words("b&#x4" + c + ";", isLetter(c) ? "b,x4g," : "b,x4,");
        }
        words("b&#6A;c&#6f;", "b,6a,c,6f,");
        words("&#x6A;&#X6a;&#x4F;&#X4f;&#x30;&#x39;", "jjoo09,");
        words("&#48;&#57;", "09,");
    }

    private static void bytesAreNotLookedAtAgain() {
        DUE.of("(Plain bytes are looked at from one tag or remark to the next one; what comes of one is not looked at "
            + "again.)");
        links("<a href='x&amp;amp;'><a href='x&#38;lt;'><a href='x&amp;#65;'>", "~x&amp;,~x&lt;,~x&,");
        words("&amp;#65;&#38;#65;", "65,65,");
        words("&#60;b&#62;", "b,");
        words("&lt;script&gt;b", "script,b,");
        words("&am<b>p;", "am,p,");
        words("&#6<!---->5;", "6,5,");
        words("&#6<!>5;", "6,5,");
        words("&<b>#65;", "65,");
        links("<a href='x&am'><a href='p;'>", "~x&am,~p;,");
        links("<&#97; href=x><a &#104;ref=x><a href&#61;x>", "");
        links("<a href=&#34;x&#34;>", "");
    }

    private static void bases() {
        DUE.of("the first tag base (with <) that has an attribute href of which, read with the page's address as base, "
            + "an address comes, tells it");
        links("<base href=r/><a href=x>", "~r/x,");
        links("<a href=x><base href=r/>", "~r/x,");
        links("<base href=r/><base href=s/><a href=x>", "~r/x,");
        links("<base href=//k><a href=x><a href=?y><a href>", "http://k/x,http://k/?y,http://k/,");
        links("<base href=?z><a href=x><a href>", "~x,~q?z,");
        links("<base href='&#114;/'><a href=x>", "~r/x,");
        links("<base href><a href=x><a href>", "~x,~q,");
    }

    private static void basesThatAreNothing() {
        DUE.of("if there is none it is the page's address.");
        links("<a href=x>", "~x,");
        links("<base><a href=x>", "~x,");
        links("<base hre=r/><a href=x>", "~x,");
        links("</base href=r/><a href=x>", "~x,");
        links("<bases href=r/><a href=x>", "~x,");
        links("<base href=:><a href=x>", "~x,");
        links("<base href=:><base><base href=r/><base href=s/><a href=x>", "~r/x,");
        links("<!--<base href=r/>--><a href=x>", "~x,");
        String most = "p".repeat(188);
        links("<base href=" + most + "p/><base href=r/><a href=x>", "~r/x,");
        links("<base href=" + most + "/><base href=r/><a href=>", "~" + most + "/,");
        links("<base href=" + most + "/><base href=r/><a href=x>", "");
    }

    private static void linkTags() {
        DUE.of("Its LINKS: of each tag a (with <) that has a href, what comes of that read with the page's BASE");
        links("<a href=x><A HREF=y>", "~x,~y,");
        links("</a href=x><b href=x><link href=x><a src=x><a name=href>", "");
        links("<a href=:><a href='x y'><a href=%><a href=x>", "~x,");
        links("<a href=" + "p".repeat(189) + ">", "~" + "p".repeat(189) + ",");
        links("<a href=" + "p".repeat(190) + ">", "");
        links("", "");
    }

    private static String linksUpTo(int n) {
        StringBuilder text = new StringBuilder();
        for (int i = 1; i <= n; i++) {
            text.append("<a href=").append(i).append('>');
        }
        return text.toString();
    }

    private static void sixtyLinks() {
        DUE.of("each once, where it came first; the first 60 of these.");
        for (int n = 58; n < 64; n++) {
            Finder x = new Finder();
            Due.tape(x, "http://h/\n" + linksUpTo(n));
            DUE.is("of " + n + " links", x.look(0), Math.min(n, 60));
            // http://h/, one or two digits, and a 10.
            DUE.is("bytes", x.made(), 9 * 11 + (Math.min(n, 60) - 9) * 12);
        }
        links(linksUpTo(61), Due.look(0, "http://h/p/q", linksUpTo(60)).replace("http://h/p/", "~"));
        String others = "<a href=:><a href=1><a href=59><a href=>";
        String got = Due.look(0, "http://h/p/q", linksUpTo(59) + others + "<a href=61>");
        DUE.is("those that are nothing, or were before, are not counted", got.endsWith("http://h/p/59,http://h/p/q,"), true);
        got = Due.look(0, "http://h/p/q", linksUpTo(60) + "<base href=r/>");
        DUE.is("a base behind the 60th", got.endsWith("http://h/p/r/60,"), true);
    }

    private static void eachLinkOnce() {
        DUE.of("each once, where it came first");
        links("<a href=x><a href=y><a href=x><a href=./x><a href=%78><a href=x#z>", "~x,~y,");
        links("<a href=y><a href=x><a href=y>", "~y,~x,");
        links("<a href=x><a href=X><a href=x?><a href=x/>", "~x,~X,~x?,~x/,");
    }

    private static void wordBytes() {
        DUE.of("LETTERS a-z and A-Z; DIGITS 0-9.");
        for (char c = 0; c < 256; c++) {
            boolean inWord = isLetter(c) || isDigit(c);
            words("x " + c, inWord ? "x," + lower(c) + "," : "x,");
            words("x" + c + "y", inWord ? "x" + lower(c) + "y," : c == '<' ? "x," : "x,y,");
        }
    }

    private static void lowerBytes() {
        DUE.of("'Lower' is with a-z for A-Z.");
        words("AZaz09", "azaz09,");
        words("@A[Z`a{z", "a,z,a,z,");
        words("\u00c0A\u00deZ\u00e0", "a,z,");
        links("<a HREF=x><A hReF=X>", "~x,~X,");
        links("<a (REF=x><a \u0008ref=x><a hre\u00c6=x>", "");
    }

    private static void twentyBytes() {
        DUE.of("of each the first 20 bytes count.");
        String twenty = "abcdefghijKLMNO56789";
        String lower = "abcdefghijklmno56789";
        words(twenty.substring(1), lower.substring(1) + ",");
        words(twenty, lower + ",");
        words(twenty + "0", lower + ",");
        words(twenty + "0123456789".repeat(50), lower + ",");
        words(twenty + "x " + twenty + "y", lower + "," + lower + ",");
        words("a".repeat(19) + "&#98;c", "a".repeat(19) + "b,");
        words("a".repeat(10) + "<b>" + "a".repeat(11), "a".repeat(10) + "," + "a".repeat(11) + ",");
    }

    private static void wordsEnd() {
        DUE.of("as long as they can be, lower; a tag or remark ends one");
        words("a<b>c", "a,c,");
        words("a</b>c", "a,c,");
        words("a<!---->c", "a,c,");
        words("a<!>c", "a,c,");
        words("a<script></script>c", "a,c,");
        words("a&#98;c", "abc,");
        words("a&#32;c", "a,c,");
        words("a&amp;c", "a,c,");
        words("A1b2", "a1b2,");
        words("", "");
        words(" ", "");
        words("a", "a,");
        words("a a", "a,a,");
    }

    private static void lookRefuses() {
        DUE.of("Answers how many these are; NONE when nothing comes of the line, or for another what (the product stays).");
        Finder x = new Finder();
        Due.read(x, "http://h/", "x");
        for (int what : new int[] {-1, 2, 3, Integer.MIN_VALUE, Integer.MAX_VALUE}) {
            Due.tape(x, "http://h/\nred <a href=y>");
            DUE.is("look " + what, x.look(what), -1);
            DUE.is("the tape", x.end(0), 0);
        }
        for (int what = 0; what < 2; what++) {
            for (String line : new String[] {"", "h", "/h", "http://h/<"}) {
                Due.tape(x, line + "\nred <a href=http://h/y>");
                DUE.is("look of " + line, x.look(what), -1);
                DUE.is("the tape", x.end(0), 0);
            }
        }
        DUE.is("the product stays", Due.product(x), "http://h/x");
        Due.tape(x, "http://h/\nred <a href=y>");
        DUE.is("look 0", x.look(0), 1);
        DUE.is("a 10 behind it", Due.product(x), "http://h/y\n");
        Due.tape(x, "http://h/\nred <a href=y>");
        DUE.is("look 1", x.look(1), 1);
        DUE.is("a 10 behind it", Due.product(x), "red\n");
        DUE.is("the web has no page of it", x.count(0), 0);
        Due.tape(x, "http://h/\n");
        DUE.is("look of an empty text", x.look(1), 0);
        DUE.is("the product is empty", x.made(), 0);
    }
}
