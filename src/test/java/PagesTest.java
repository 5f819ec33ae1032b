/** Promises 5, 6 and 9: page, drop, look. */
public final class PagesTest {
    private static final Due DUE = new Due();

    public static void main(String[] args) {
        pages();
        pageLimits();
        drops();
        remarks();
        tags();
        attributes();
        rawText();
        references();
        bases();
        manyLinks();
        words();
        refusals();
        cutAnywhere();
        DUE.end("PagesTest");
    }

    private static void links(String text, String want) {
        String got = Due.look(0, "http://h/p/q", text);
        DUE.is("links of " + text, got.replace("http://h/p/", "~"), want);
    }

    private static void words(String text, String want) {
        DUE.is("words of " + text, Due.look(1, "http://h/p/q", text), want);
    }

    private static void pages() {
        Finder x = new Finder();
        DUE.is("first", Due.page(x, 200, "http://a/", "x"), 1);
        DUE.is("again", Due.page(x, 404, "HTTP://A:80", "y"), 1);
        DUE.is("second", Due.page(x, 100, "http://a/?", ""), 2);
        DUE.is("599", Due.page(x, 599, "http://b/", ""), 3);
        DUE.is("99", Due.page(x, 99, "http://c/", ""), -1);
        DUE.is("the tape", x.end(0), 0);
        DUE.is("600", Due.page(x, 600, "http://c/", ""), -1);
        DUE.is("nothing", Due.page(x, 200, "c", "http://c/"), -1);
        DUE.is("the tape", x.end(0), 0);
        DUE.is("no bytes", x.page(200), -1);
        DUE.is("count", x.count(0), 3);
        Due.tape(x, "http://d/");
        DUE.is("no 10", x.page(200), 4);
    }

    private static void pageLimits() {
        Finder x = new Finder();
        for (int i = 0; i < 60; i++) {
            DUE.is("page " + i, Due.page(x, 200, "http://a/" + i, ""), i + 1);
        }
        DUE.is("one more", Due.page(x, 200, "http://a/60", ""), -1);
        DUE.is("the tape", x.end(0), 0);
        DUE.is("one of them", Due.page(x, 200, "http://a/7", "x"), 60);
        DUE.is("drop", Due.drop(x, "http://a/3"), true);
        DUE.is("count", x.count(0), 59);
        DUE.is("one more", Due.page(x, 200, "http://a/60", ""), 60);
        DUE.is("the dropped one", Due.page(x, 200, "http://a/3", ""), -1);
    }

    private static void drops() {
        Finder x = new Finder();
        DUE.is("none", Due.drop(x, "http://a/"), false);
        Due.page(x, 200, "http://a/", "");
        Due.page(x, 200, "http://b/", "");
        DUE.is("nothing", Due.drop(x, "a"), false);
        DUE.is("two lines", Due.drop(x, "http://a/\nx"), false);
        DUE.is("the tape", x.end(0), 0);
        DUE.is("a", Due.drop(x, " HTTP://a\n"), true);
        DUE.is("a again", Due.drop(x, "http://a/"), false);
        DUE.is("count", x.count(0), 1);
        DUE.is("b", Due.drop(x, "http://b"), true);
        DUE.is("count", x.count(0), 0);
    }

    private static void remarks() {
        words("a<!-- b -->c", "a,c,");
        words("a<!-->b-->c", "a,c,");
        words("a<!--->b-->c", "a,c,");
        words("a<!---->b", "a,b,");
        words("a<!-- b -- > c", "a,");
        words("a<!-b>c<?d e>f</ g>h</5>i<!>j</>k", "a,c,f,h,i,j,k,");
        words("a<!b", "a,");
        words("a<?b", "a,");
        words("a</", "a,");
        words("a< b <5 <=c> <", "a,b,5,c,");
        words("a<!-b <c>d", "a,d,");
        links("<!-- <a href=x> --><a href=y><!-- <a href=z>", "~y,");
        links("<!-<a href=x><a href=y>", "~y,");
    }

    private static void tags() {
        words("a<b>c</b>d<e/>f<g\nh>i", "a,c,d,f,i,");
        words("a<b c", "a,");
        words("a<b c='>' d=\">\">e", "a,e,");
        words("a</b c='>'>e", "a,e,");
        words("a<b c=\"d>e", "a,");
        words("<b<c>d", "d,");
        links("<A HREF=x>", "~x,");
        links("</a href=x><ab href=x><b href=x><a1 href=x>", "");
        links("<a href=x", "");
        links("<a href='x>", "");
        links("<a/href=x><a\thref=y><a\nhref=z><a\fhref=w><a\rhref=v>", "~x,~y,~z,~w,~v,");
        links("<a\u000bhref=x>", "");
    }

    private static void attributes() {
        links("<a href>", "~q,");
        links("<a href=>", "~q,");
        links("<a href = x>", "~x,");
        links("<a href\n=\n'x'>", "~x,");
        links("<a href=\"x\"y=z>", "~x,");
        links("<a href='x\"'>", "");
        links("<a href=x/y/>", "~x/y/,");
        links("<a href=x href=y>", "~x,");
        links("<a href href=y>", "~q,");
        links("<a HREF=x hrEF=y>", "~x,");
        links("<a =href=x>", "");
        links("<a = href=x>", "~x,");
        links("<a == href=x>", "");
        links("<a href/=x>", "~q,");
        links("<a x href=y>", "~y,");
        links("<a x=\"href=z\" href=y>", "~y,");
        links("<a xhref=y hrefx=z>", "");
        links("<a ' href=y>", "~y,");
        links("<a ///href=y>", "~y,");
        links("<a href= x y>", "~x,");
        links("<a href=x>y<a href='z", "~x,");
        links("<a href=' x '>", "~x,");
        links("<a href='x y'>", "");
    }

    private static void rawText() {
        words("a<script>b</script>c", "a,c,");
        words("a<SCRIPT x>b</Script >c", "a,c,");
        words("a<script>b</scripts></scrip></script", "a,");
        words("a<script>b</script/>c<style>d</script>e</style\n>f", "a,c,f,");
        words("a<script/>b</script x='>'>c", "a,c,");
        words("a</script>b</style>c", "a,b,c,");
        words("a<script>b<!-- </script>c --> d", "a,c,d,");
        words("a<style>b", "a,");
        words("a<scripts>b", "a,b,");
        links("<script><a href=x></script><a href=y><style><a href=z>", "~y,");
        links("<script", "");
    }

    private static void references() {
        words("a&amp;b&lt;c&gt;d&quot;e&apos;f", "a,b,c,d,e,f,");
        words("&amp", "amp,");
        words("&Amp;", "amp,");
        words("&#97;&#x62;&#X63;d", "abcd,");
        words("&#000097;", "a,");
        words("&#0000097;", "0000097,");
        words("&#x000061;", "a,");
        words("&#x0000061;", "x0000061,");
        words("&#;&#x;&#X;&#xg;&#9a;", "x,x,xg,9a,");
        words("a&#31;b&#127;c&#32;d&#999999;e&#xffffff;f", "a,b,c,d,e,f,");
        words("a&#321;b&#x161;c&#0;d", "a,b,c,d,");
        links("<a href='x&#31;'><a href='y&#127;'><a href='z&#288;'><a href='&#126;'>", "~x,~y,~z,~~,");
        words("&amp;lt;", "lt,");
        words("&#38;#97;", "97,");
        words("&#60;b&#62;", "b,");
        words("&a<b>mp;c", "a,mp,c,");
        words("&#9<!-- -->7;", "9,7,");
        links("<a href='&#120;'><a href=&amp;><a href='&#x2f;y'><a href='&lt;'>", "~x,~&,http://h/y,");
        links("<a href='&#10;x&#9;'>", "~x,");
        links("<a href='x&#10;y'>", "");
        links("<a href='&#35;y'>", "~q,");
        links("<a href=\"x&quot;\"><a href='&#x26;amp;'>", "~&amp;,");
        links("<&#97; href=x>", "");
    }

    private static void bases() {
        links("<a href=x><base href=r/><a href=y>", "~r/x,~r/y,");
        links("<base><base href='<'><base href=s/t><base href=u/><a href=x>", "~s/x,");
        links("</base href=r/><!-- <base href=r/> --><script><base href=r/></script><a href=x>", "~x,");
        links("<base href='//k:7/?z'><a href=x><a href=''>", "http://k:7/x,http://k:7/?z,");
        links("<base href=><a href=x>", "~x,");
        links("<base href=r/ <a href=x>", "");
        links("<base href=r/><a href=x><base href=s", "~r/x,");
        links("<base href='&#114;/'><a href=x>", "~r/x,");
    }

    private static void manyLinks() {
        StringBuilder text = new StringBuilder("<a href=0><a href=><a href='<'>");
        StringBuilder want = new StringBuilder("~0,~q,");
        for (int i = 1; i < 62; i++) {
            text.append("<a href=").append(i).append("><a href=./").append(i / 2).append(">");
            if (i < 59) {
                want.append("~").append(i).append(",");
            }
        }
        Finder x = new Finder();
        links(text.toString(), want.toString());
        Due.tape(x, "http://h/\n" + text);
        DUE.is("how many", x.look(0), 60);
    }

    private static void words() {
        words("One tWO\nthree3,4-5_6\u00e9x\u00007", "one,two,three3,4,5,6,x,7,");
        words("abcdefghijklmnopqrstUVW abcdefghijklmnopqrst", "abcdefghijklmnopqrst,abcdefghijklmnopqrst,");
        words("a<b>b<!---->c</b>d", "a,b,c,d,");
        words("a a a", "a,a,a,");
        words("", "");
    }

    private static void refusals() {
        Finder x = new Finder();
        Due.read(x, "http://h/", "x");
        Due.tape(x, "x\n<a href=y>");
        DUE.is("nothing", x.look(0), -1);
        DUE.is("the tape", x.end(0), 0);
        Due.tape(x, "http://h/\n<a href=y>");
        DUE.is("another what", x.look(2), -1);
        DUE.is("the tape", x.end(0), 0);
        DUE.is("no bytes", x.look(1), -1);
        Due.tape(x, "http://h/\n<a href=y>");
        DUE.is("another what", x.look(-1), -1);
        DUE.is("the product stays", Due.product(x), "http://h/x");
        Due.tape(x, "http://h/");
        DUE.is("no text", x.look(0), 0);
        DUE.is("the product is anew", x.made(), 0);
        Due.tape(x, "http://h/\na b");
        DUE.is("words", x.look(1), 2);
        DUE.is("a 10 behind each", Due.product(x), "a\nb\n");
    }

    /** A text may end within anything; a crawl has it without a byte behind its end. */
    private static void cutAnywhere() {
        String text = "a&amp;b&#x41;<!-- c --><!d></e f='g'><a href = \"h&lt;\" i=j/k>l<script m>n</script >o<base href='p'><?q>&#9;<a r";
        for (int length = 0; length <= text.length(); length++) {
            String cut = text.substring(0, length);
            Finder x = new Finder();
            Due.page(x, 200, "http://a/", cut);
            Due.page(x, 301, "http://b/", cut);
            Due.rules(x, "http://c/", cut);
            Due.seed(x, "http://a/");
            Due.seed(x, "http://b/");
            x.start();
            x.run(9);
            DUE.is("find with " + cut, x.find(1), 1);
            Due.tape(x, "http://a/\n" + cut);
            DUE.is("words of " + cut, x.document(0, 5), x.look(1));
            Due.tape(x, "http://a/\n" + cut);
            DUE.is("links of " + cut, x.look(0), Model.links("http://a/", cut).size());
        }
    }
}
