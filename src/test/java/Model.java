import java.util.ArrayList;
import java.util.Arrays;
import java.util.Comparator;
import java.util.HashMap;
import java.util.LinkedHashMap;
import java.util.LinkedHashSet;
import java.util.List;
import java.util.Locale;
import java.util.Map;
import java.util.TreeMap;
import java.util.regex.Matcher;
import java.util.regex.Pattern;

/** The document once more, in Strings, patterns and the library's collections, to be compared with the program. */
final class Model {
    private static final String B = " \\t\\n\\f\\r";

    final StringBuilder tape = new StringBuilder();
    String product = "";
    final Map<String, Page> pages = new LinkedHashMap<>();
    final Map<String, String> rules = new HashMap<>();
    final int[] settings = {3, 3, 2, 4};
    final List<String> seeds = new ArrayList<>();
    boolean started;
    int[] limits;
    int clock;
    List<Known> known = new ArrayList<>();
    List<Known> saved = new ArrayList<>();
    int sinceSaved;
    Integer crashedAt;
    final Map<String, Integer> lastAsked = new HashMap<>();
    final List<Integer> askClocks = new ArrayList<>();
    final List<String> askAddresses = new ArrayList<>();
    List<Document> documents = new ArrayList<>();
    List<long[]> hits = new ArrayList<>();

    record Page(int status, String text) { }

    static final class Known {
        String address;
        int state = 1;
        int depth;
        int chain;
        String lead;
        String text;

        Known copy() {
            Known other = new Known();
            other.address = address;
            other.state = state;
            other.depth = depth;
            other.chain = chain;
            other.lead = lead;
            other.text = text;
            return other;
        }
    }

    static final class Document {
        String address;
        String text;
        int number;
        int copies;
        long rank;
        final LinkedHashSet<Document> leads = new LinkedHashSet<>();
        int ledToBy;
        List<String> words;
    }

    // ---- bytes

    static String low(String s) {
        return s.toLowerCase(Locale.ROOT);
    }

    static String trimmed(String s) {
        return s.replaceAll("\\A[" + B + "]+", "").replaceAll("[" + B + "]+\\z", "");
    }

    static String firstLine(String s) {
        int at = s.indexOf('\n');
        return at < 0 ? s : s.substring(0, at > 0 && s.charAt(at - 1) == '\r' ? at - 1 : at);
    }

    static String rest(String s) {
        int at = s.indexOf('\n');
        return at < 0 ? "" : s.substring(at + 1);
    }

    String takeTape() {
        String s = tape.toString();
        tape.setLength(0);
        return s;
    }

    // ---- addresses

    static String unescaped(String s) {
        Matcher m = Pattern.compile("%([0-9a-fA-F]{2})").matcher(s);
        return m.replaceAll(r -> {
            char c = (char) Integer.parseInt(r.group(1), 16);
            String now = ("" + c).matches("[A-Za-z0-9._~-]") ? "" + c : r.group().toUpperCase(Locale.ROOT);
            return Matcher.quoteReplacement(now);
        });
    }

    static int first(String s, char c) {
        return s.indexOf(c) < 0 ? Integer.MAX_VALUE : s.indexOf(c);
    }

    /** Null for nothing, as a result and as a base. */
    static String resolve(String reference, String base) {
        String r = trimmed(reference).replaceAll("(?s)#.*\\z", "");
        if (!r.matches("(?:[!-~&&[^\"<>\\\\^`{|}%]]|%[0-9a-fA-F]{2})*+")) {
            return null;
        }
        int colon = first(r, ':');
        if (colon < first(r, '/') && colon < first(r, '?')) {
            if (!low(r).startsWith("http://")) {
                return null;
            }
            r = r.substring(5);
        }
        String host;
        String path;
        if (r.startsWith("//")) {
            Matcher m = Pattern.compile("//([A-Za-z0-9.-]{1,60})(?::([0-9]{0,5}))?([/?].*)?").matcher(r);
            if (!m.matches()) {
                return null;
            }
            host = low(m.group(1));
            if (m.group(2) != null && !m.group(2).isEmpty()) {
                int port = Integer.parseInt(m.group(2));
                if (port > 65535) {
                    return null;
                }
                host += port == 80 ? "" : ":" + port;
            }
            path = m.group(3) == null ? "" : m.group(3);
        } else {
            if (base == null) {
                return null;
            }
            Matcher m = Pattern.compile("http://([^/]*)((?:/[^/?]*)*?)(/[^/?]*)(\\?.*)?").matcher(base);
            if (!m.matches()) {
                throw new IllegalStateException(base);
            }
            host = m.group(1);
            String query = m.group(4) == null ? "" : m.group(4);
            if (r.isEmpty()) {
                path = m.group(2) + m.group(3) + query;
            } else if (r.startsWith("?")) {
                path = m.group(2) + m.group(3) + r;
            } else {
                path = r.startsWith("/") ? r : m.group(2) + "/" + r;
            }
        }
        path = unescaped(path);
        int question = path.indexOf('?');
        String query = question < 0 ? "" : path.substring(question);
        path = question < 0 ? path : path.substring(0, question);
        path = path.isEmpty() ? "/" : path;
        List<String> left = new ArrayList<>();
        String[] segments = path.substring(1).split("/", -1);
        for (String segment : segments) {
            if (segment.equals("..") && !left.isEmpty()) {
                left.remove(left.size() - 1);
            }
            if (!segment.equals("..") && !segment.equals(".")) {
                left.add(segment);
            }
        }
        if (segments[segments.length - 1].matches("\\.\\.?")) {
            left.add("");
        }
        String address = "http://" + host + "/" + String.join("/", left) + query;
        return address.length() > 200 ? null : address;
    }

    static String site(String address) {
        return address.substring(7, address.indexOf('/', 7));
    }

    // ---- rules

    record Rule(boolean allow, String pattern) { }

    static final class Group {
        final List<String> agents = new ArrayList<>();
        final List<Rule> rules = new ArrayList<>();
        boolean closed;
    }

    static List<Rule> holding(String text) {
        List<Group> groups = new ArrayList<>();
        for (String line : text.split("\n", -1)) {
            String cut = line.replaceAll("(?s)#.*\\z", "");
            int colon = cut.indexOf(':');
            if (colon < 0) {
                continue;
            }
            String key = low(trimmed(cut.substring(0, colon)));
            String value = trimmed(cut.substring(colon + 1));
            Group last = groups.isEmpty() ? null : groups.get(groups.size() - 1);
            if (key.equals("user-agent")) {
                if (last == null || last.closed) {
                    last = new Group();
                    groups.add(last);
                }
                last.agents.add(low(value));
            } else if ((key.equals("allow") || key.equals("disallow")) && last != null) {
                last.closed = true;
                if (!value.isEmpty()) {
                    last.rules.add(new Rule(key.equals("allow"), unescaped(value)));
                }
            }
        }
        boolean own = groups.stream().anyMatch(g -> g.agents.contains("finder"));
        List<Rule> holding = new ArrayList<>();
        for (Group g : groups) {
            if (g.agents.contains(own ? "finder" : "*")) {
                holding.addAll(g.rules);
            }
        }
        return holding;
    }

    static boolean matches(String pattern, String path) {
        boolean end = pattern.endsWith("$");
        String body = end ? pattern.substring(0, pattern.length() - 1) : pattern;
        StringBuilder regex = new StringBuilder("(?s)");
        for (String piece : body.split("\\*", -1)) {
            regex.append(regex.length() > 4 ? ".*" : "").append(Pattern.quote(piece));
        }
        return path.matches(regex + (end ? "" : ".*"));
    }

    boolean isAllowed(String address) {
        String path = address.substring(address.indexOf('/', 7));
        int longest = -1;
        boolean allow = true;
        for (Rule rule : holding(rules.getOrDefault(site(address), ""))) {
            int length = rule.pattern().length();
            if (length >= longest && matches(rule.pattern(), path)) {
                allow = rule.allow() || length == longest && allow;
                longest = length;
            }
        }
        return allow;
    }

    // ---- pages

    private static final String VALUE = "(?:\"[^\"]*+\"?|'[^']*+'?|(?![\"'])[^" + B + ">]*+)";
    private static final String ATTRIBUTE =
        "[^" + B + "/>][^" + B + "/>=]*+(?:[" + B + "]*+=[" + B + "]*+" + VALUE + ")?+";
    private static final Pattern TAG = Pattern.compile(
        "<(/?)([a-zA-Z][^" + B + "/>]*+)((?:[" + B + "/]++|" + ATTRIBUTE + ")*+)(>?)");
    private static final Pattern ONE_ATTRIBUTE = Pattern.compile(
        "([^" + B + "/>][^" + B + "/>=]*+)(?:[" + B + "]*+=[" + B + "]*+(" + VALUE + "))?+");
    private static final Pattern REMARK = Pattern.compile("(?s)<!--.*?(?:-->|\\z)|<[!?/][^>]*+>?");
    private static final Pattern BYTE = Pattern.compile(
        "&(?:(amp|lt|gt|quot|apos)|#([0-9]{1,6})|#[xX]([0-9a-fA-F]{1,6}));");

    record Tag(String name, String href) { }

    /** Runs of plain bytes (Strings, decoded) and opening tags (Tags). */
    static List<Object> tokens(String text) {
        List<Object> tokens = new ArrayList<>();
        StringBuilder plain = new StringBuilder();
        int at = 0;
        while (at < text.length()) {
            Matcher tag = TAG.matcher(text).region(at, text.length());
            Matcher remark = REMARK.matcher(text).region(at, text.length());
            boolean isTag = tag.lookingAt();
            boolean isRemark = !isTag && remark.lookingAt();
            if (!isTag && !isRemark) {
                plain.append(text.charAt(at));
                at++;
                continue;
            }
            tokens.add(decoded(plain.toString()));
            plain.setLength(0);
            at = isTag ? tag.end() : remark.end();
            if (isTag && tag.group(4).equals(">") && tag.group(1).isEmpty()) {
                String name = low(tag.group(2));
                tokens.add(new Tag(name, href(tag.group(3))));
                if (name.equals("script") || name.equals("style")) {
                    Matcher close = Pattern.compile("(?i)</" + name + "[" + B + "/>]").matcher(text);
                    at = close.find(at) ? close.start() : text.length();
                }
            }
        }
        tokens.add(decoded(plain.toString()));
        return tokens;
    }

    private static String href(String attributes) {
        Matcher m = ONE_ATTRIBUTE.matcher(attributes);
        while (m.find()) {
            if (low(m.group(1)).equals("href")) {
                String value = m.group(2) == null ? "" : m.group(2);
                boolean quoted = value.startsWith("\"") || value.startsWith("'");
                return decoded(quoted ? value.substring(1, value.length() - 1) : value);
            }
        }
        return null;
    }

    static String decoded(String s) {
        return BYTE.matcher(s).replaceAll(r -> {
            if (r.group(1) != null) {
                return Matcher.quoteReplacement(
                    Map.of("amp", "&", "lt", "<", "gt", ">", "quot", "\"", "apos", "'").get(r.group(1)));
            }
            int n = r.group(2) != null ? Integer.parseInt(r.group(2)) : Integer.parseInt(r.group(3), 16);
            return Matcher.quoteReplacement(n >= 32 && n <= 126 ? "" + (char) n : " ");
        });
    }

    static List<String> links(String address, String text) {
        List<Object> tokens = tokens(text);
        String base = null;
        for (Object token : tokens) {
            if (base == null && token instanceof Tag t && t.name().equals("base") && t.href() != null) {
                base = resolve(t.href(), address);
            }
        }
        LinkedHashSet<String> links = new LinkedHashSet<>();
        for (Object token : tokens) {
            if (token instanceof Tag t && t.name().equals("a") && t.href() != null) {
                String link = resolve(t.href(), base == null ? address : base);
                if (link != null && links.size() < 60) {
                    links.add(link);
                }
            }
        }
        return new ArrayList<>(links);
    }

    static List<String> plainWords(String s) {
        List<String> words = new ArrayList<>();
        Matcher m = Pattern.compile("[a-zA-Z0-9]+").matcher(s);
        while (m.find()) {
            String word = low(m.group());
            words.add(word.substring(0, Math.min(20, word.length())));
        }
        return words;
    }

    static List<String> words(String text) {
        List<String> words = new ArrayList<>();
        for (Object token : tokens(text)) {
            if (token instanceof String s) {
                words.addAll(plainWords(s));
            }
        }
        return words;
    }

    // ---- calls

    int read() {
        String s = takeTape();
        String made = resolve(rest(s), resolve(firstLine(s), null));
        product = made == null ? "" : made;
        return product.length();
    }

    int page(int status) {
        String s = takeTape();
        String address = resolve(firstLine(s), null);
        if (address == null || status < 100 || status > 599 || pages.size() == 60 && !pages.containsKey(address)) {
            return -1;
        }
        pages.put(address, new Page(status, rest(s)));
        return pages.size();
    }

    boolean drop() {
        String address = resolve(takeTape(), null);
        return address != null && pages.remove(address) != null;
    }

    int rules() {
        String s = takeTape();
        String address = resolve(firstLine(s), null);
        if (address == null || rules.size() == 12 && !rules.containsKey(site(address))) {
            return -1;
        }
        rules.put(site(address), rest(s));
        return holding(rest(s)).size();
    }

    int allowed() {
        String address = resolve(takeTape(), null);
        return address == null ? -1 : isAllowed(address) ? 1 : 0;
    }

    int look(int what) {
        String s = takeTape();
        String address = resolve(firstLine(s), null);
        if (address == null || what < 0 || what > 1) {
            return -1;
        }
        List<String> rows = what == 0 ? links(address, rest(s)) : words(rest(s));
        product = "";
        for (String row : rows) {
            product += row + "\n";
        }
        return rows.size();
    }

    boolean set(int setting, int value) {
        int[][] ranges = {{0, 20}, {0, 8}, {0, 1000}, {1, 50}};
        if (setting < 0 || setting > 3 || value < ranges[setting][0] || value > ranges[setting][1]) {
            return false;
        }
        settings[setting] = value;
        return true;
    }

    int seed() {
        String address = resolve(takeTape(), null);
        if (address == null || seeds.size() == 20) {
            return -1;
        }
        seeds.add(address);
        return seeds.size();
    }

    int start() {
        started = true;
        limits = settings.clone();
        clock = 0;
        known = new ArrayList<>();
        crashedAt = null;
        lastAsked.clear();
        askClocks.clear();
        askAddresses.clear();
        for (String seed : seeds) {
            found(seed, 0, 0);
        }
        save();
        return known.size();
    }

    private void save() {
        saved = new ArrayList<>();
        for (Known k : known) {
            saved.add(k.copy());
        }
        sinceSaved = 0;
    }

    Known knownAt(String address) {
        return known.stream().filter(k -> k.address.equals(address)).findFirst().orElse(null);
    }

    private void found(String address, int depth, int chain) {
        Known k = knownAt(address);
        if (k == null && depth <= limits[0] && chain <= limits[1] && known.size() < 250) {
            k = new Known();
            k.address = address;
            k.depth = depth;
            k.chain = chain;
            known.add(k);
        } else if (k != null && k.state == 1 && (k.depth > depth || k.depth == depth && k.chain > chain)) {
            k.depth = depth;
            k.chain = chain;
        }
    }

    int waiting() {
        return (int) known.stream().filter(k -> k.state == 1).count();
    }

    int step() {
        if (!started || waiting() == 0) {
            return -1;
        }
        Known k = known.stream().filter(w -> w.state == 1)
            .min(Comparator.<Known>comparingInt(w -> w.depth).thenComparingInt(w -> w.chain)).get();
        if (!isAllowed(k.address)) {
            k.state = 4;
            return 4;
        }
        Integer last = lastAsked.getOrDefault(site(k.address), crashedAt);
        clock = last == null ? clock : Math.max(clock, last + limits[2]);
        lastAsked.put(site(k.address), clock);
        askClocks.add(clock);
        askAddresses.add(k.address);
        clock++;
        sinceSaved++;
        Page page = pages.get(k.address);
        k.state = 5;
        if (page != null && page.status() == 200) {
            k.state = 2;
            k.text = page.text();
            for (String link : links(k.address, k.text)) {
                found(link, k.depth + 1, 0);
            }
        } else if (page != null && page.status() / 100 == 3 && k.chain < limits[1]) {
            k.lead = resolve(firstLine(page.text()), k.address);
            if (k.lead != null) {
                k.state = 3;
                found(k.lead, k.depth, k.chain + 1);
            }
        }
        if (sinceSaved >= limits[3]) {
            save();
        }
        return k.state;
    }

    int run(int most) {
        if (!started || most < 0) {
            return -1;
        }
        int steps = 0;
        while (steps < most && step() != -1) {
            steps++;
        }
        return steps;
    }

    boolean crash() {
        if (started) {
            known = saved;
            save();
            crashedAt = clock;
            lastAsked.clear();
        }
        return started;
    }

    int known(int i, int what) {
        if (i < 0 || i >= known.size() || what < 0 || what > 3) {
            return -1;
        }
        Known k = known.get(i);
        int[] marks = {k.state, k.depth, k.chain, k.state == 3 ? known.indexOf(knownAt(k.lead)) : -1};
        return marks[what];
    }

    private Document comesTo(String address, Map<String, Document> byText, int steps) {
        Known k = knownAt(address);
        if (k != null && k.state == 2) {
            return byText.get(k.text);
        }
        return k == null || k.state != 3 || steps == 20 ? null : comesTo(k.lead, byText, steps + 1);
    }

    int find(int rounds) {
        if (!started || waiting() > 0 || rounds < 0 || rounds > 50) {
            return -1;
        }
        TreeMap<String, Known> got = new TreeMap<>();
        known.stream().filter(k -> k.state == 2).forEach(k -> got.put(k.address, k));
        Map<String, Document> byText = new LinkedHashMap<>();
        for (Known k : got.values()) {
            if (byText.containsKey(k.text)) {
                byText.get(k.text).copies++;
                continue;
            }
            Document d = new Document();
            d.address = k.address;
            d.text = k.text;
            d.number = known.indexOf(k);
            d.words = words(k.text);
            byText.put(k.text, d);
        }
        documents = new ArrayList<>(byText.values());
        hits = new ArrayList<>();
        int n = documents.size();
        for (Document d : documents) {
            for (String link : links(d.address, d.text)) {
                Document other = comesTo(link, byText, 0);
                if (other != null && other != d && d.leads.add(other)) {
                    other.ledToBy++;
                }
            }
            d.rank = 1000000 / n;
        }
        for (int round = 0; round < rounds; round++) {
            long[] next = new long[n];
            Arrays.fill(next, n == 0 ? 0 : 150000 / n);
            for (Document d : documents) {
                for (Document other : d.leads) {
                    next[documents.indexOf(other)] += d.rank * 85 / 100 / d.leads.size();
                }
            }
            for (int i = 0; i < n; i++) {
                documents.get(i).rank = next[i];
            }
        }
        return n;
    }

    int document(int d, int what) {
        if (d < 0 || d >= documents.size() || what < 0 || what > 5) {
            return -1;
        }
        Document x = documents.get(d);
        return new int[] {x.number, (int) x.rank, x.leads.size(), x.ledToBy, x.copies, x.words.size()}[what];
    }

    int ask(int mode) {
        List<String> question = plainWords(takeTape());
        if (mode < 0 || mode > 2) {
            return -1;
        }
        question = question.subList(0, Math.min(8, question.size()));
        hits = new ArrayList<>();
        for (int i = 0; i < documents.size() && !question.isEmpty(); i++) {
            List<String> words = documents.get(i).words;
            long places = 0;
            for (int k = 0; k < words.size(); k++) {
                boolean row = k + question.size() <= words.size()
                    && words.subList(k, k + question.size()).equals(question);
                places += mode == 2 ? row ? 1 : 0 : question.contains(words.get(k)) ? 1 : 0;
            }
            if (places > 0 && (mode != 1 || words.containsAll(question))) {
                hits.add(new long[] {i, places * documents.get(i).rank});
            }
        }
        hits.sort((a, b) -> Long.compare(b[1], a[1]));
        return hits.size();
    }
}
