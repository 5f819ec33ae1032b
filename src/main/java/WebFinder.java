import java.util.Arrays;

/** Crawls a web that is told to it page by page, ranks what it got, and answers questions by it. */
public final class WebFinder {
    public static final int NONE = -1;

    private static final int MOST_TAPE = 8000;
    private static final int MOST_SEEDS = 20;
    private static final int MOST_ROUNDS = 50;
    private static final int MOST_ADDRESS = 200;
    private static final int MOST_HOST = 60;
    private static final int MOST_PAGES = 60;
    private static final int MOST_RULED_SITES = 12;
    private static final int MOST_LINKS = 60;
    private static final int MOST_KNOWN = 250;
    private static final int MOST_TOLD_ASKINGS = 1000;
    private static final int MOST_LEADING_STEPS = 20;
    private static final int MOST_WORD = 20;
    private static final int MOST_QUESTION_WORDS = 8;
    private static final int LINE_END = 10;
    private static final String SCHEME = "http://";
    private static final String HEX = "0123456789ABCDEF";

    private static final int DEPTH_SETTING = 0;
    private static final int CHAIN_SETTING = 1;
    private static final int REST_SETTING = 2;
    private static final int EVERY_SETTING = 3;
    private static final int[] LEAST_SETTING = {0, 0, 0, 1};
    private static final int[] MOST_SETTING = {20, 8, 1000, 50};

    private final Bytes tape;
    private final Bytes product;
    private final Bytes base;
    private final AddressReader addresses;
    private final PageReader reader;
    private final Web web;
    private final int[] settings;
    private final Rows seeds;
    private final Crawl crawl;
    private final Documents documents;
    private final Answers answers;

    public WebFinder() {
        tape = new Bytes(256);
        product = new Bytes(256);
        base = new Bytes(MOST_ADDRESS);
        addresses = new AddressReader();
        reader = new PageReader(addresses);
        web = new Web();
        settings = new int[] {3, 3, 2, 4};
        seeds = new Rows(256, MOST_SEEDS);
        crawl = new Crawl(web, addresses, reader);
        documents = new Documents(reader);
        answers = new Answers();
    }

    public void feed(int a, int b, int c, int d, int e) throws IllegalStateException {
        if (tape.length + 20 > MOST_TAPE) {
            throw new IllegalStateException();
        }
        tape.putInt(a);
        tape.putInt(b);
        tape.putInt(c);
        tape.putInt(d);
        tape.putInt(e);
    }

    public int end(int n) throws IllegalArgumentException {
        if (n < 0 || n > tape.length) {
            throw new IllegalArgumentException();
        }
        int had = tape.length;
        tape.length = n;
        return had;
    }

    public int read() {
        resolveLine();
        base.become(addresses.result);
        addresses.resolve(tape.data, restFrom(), tape.length, base);
        tape.clear();
        product.become(addresses.result);
        return product.length;
    }

    public int page(int status) {
        boolean named = resolveLine();
        int pages = NONE;
        if (named && status >= 100 && status <= 599) {
            pages = web.tellPage(addresses.result, status, tape, restFrom());
        }
        tape.clear();
        return pages;
    }

    public boolean drop() {
        return resolveTape() && web.dropPage(addresses.result);
    }

    public int rules() {
        int holding = NONE;
        if (resolveLine()) {
            holding = web.tellRules(addresses.result, tape, restFrom());
        }
        tape.clear();
        return holding;
    }

    public int allowed() {
        if (!resolveTape()) {
            return NONE;
        }
        return web.allows(addresses.result) ? 1 : 0;
    }

    public int look(int what) {
        boolean named = resolveLine();
        int rows = NONE;
        if (named && what == 0) {
            base.become(addresses.result);
            reader.readLinks(tape.data, restFrom(), tape.length, base);
            rows = produceLines(reader.links);
        } else if (named && what == 1) {
            reader.words.clear();
            reader.readWords(tape.data, restFrom(), tape.length, reader.words);
            rows = produceLines(reader.words);
        }
        tape.clear();
        return rows;
    }

    public boolean set(int setting, int value) {
        if (setting < 0 || setting >= settings.length) {
            return false;
        }
        if (value < LEAST_SETTING[setting] || value > MOST_SETTING[setting]) {
            return false;
        }
        settings[setting] = value;
        return true;
    }

    public int seed() {
        if (!resolveTape() || seeds.size >= MOST_SEEDS) {
            return NONE;
        }
        seeds.add(addresses.result.data, 0, addresses.result.length);
        return seeds.size;
    }

    public void noSeeds() {
        seeds.clear();
    }

    public int start() {
        crawl.begin(seeds, settings);
        return crawl.addresses.size;
    }

    public int step() {
        return crawl.takeStep();
    }

    public int run(int most) {
        if (!crawl.started || most < 0) {
            return NONE;
        }
        // Each step ends one address's waiting, so there are never more steps than known addresses.
        int bound = Math.min(most, MOST_KNOWN);
        int steps = 0;
        while (steps < bound && crawl.takeStep() != NONE) {
            steps++;
        }
        return steps;
    }

    public boolean crash() {
        if (crawl.started) {
            crawl.loseMemory();
        }
        return crawl.started;
    }

    public int clock() {
        return crawl.started ? crawl.clock : NONE;
    }

    public int count(int what) {
        switch (what) {
            case 0:
                return web.pageCount;
            case 1:
                return seeds.size;
            case 2:
                return crawl.addresses.size;
            case 3:
                return crawl.waiting();
            case 4:
                return crawl.askings;
            default:
                return NONE;
        }
    }

    public int known(int i, int what) {
        if (i < 0 || i >= crawl.addresses.size || what < 0 || what >= Crawl.MARKS) {
            return NONE;
        }
        return crawl.marks[what][i];
    }

    public int asking(int k, int what) {
        if (k < 0 || k >= crawl.asked.size) {
            return NONE;
        }
        if (what == 0) {
            return crawl.askedClocks[k];
        }
        return what == 1 ? produceRow(crawl.asked, k) : NONE;
    }

    public int address(int i) {
        return produceRow(crawl.addresses, i);
    }

    public int find(int rounds) {
        if (!crawl.started || crawl.waiting() > 0 || rounds < 0 || rounds > MOST_ROUNDS) {
            return NONE;
        }
        documents.foldCopies(crawl);
        for (int d = 0; d < documents.size; d++) {
            documents.followLinks(crawl, d);
        }
        documents.rank(rounds);
        documents.indexWords();
        answers.clear();
        return documents.size;
    }

    public int document(int d, int what) {
        if (d < 0 || d >= documents.size) {
            return NONE;
        }
        switch (what) {
            case 0:
                return documents.numbers[d];
            case 1:
                return documents.ranks[d];
            case 2:
                return documents.leadsTo[d];
            case 3:
                return documents.ledToBy[d];
            case 4:
                return documents.copies[d];
            case 5:
                return documents.firstPlaces[d + 1] - documents.firstPlaces[d];
            default:
                return NONE;
        }
    }

    public int where(int d) {
        if (d < 0 || d >= documents.size) {
            return NONE;
        }
        byte[] address = documents.pages[d].address;
        product.clear();
        product.putAll(address, 0, address.length);
        return product.length;
    }

    public int ask(int mode) {
        int hits = NONE;
        if (mode >= Answers.ANY && mode <= Answers.ROW) {
            answers.answer(tape, mode, documents);
            hits = answers.size;
        }
        tape.clear();
        return hits;
    }

    public int hit(int i) {
        return i < 0 || i >= answers.size ? NONE : answers.hits[i];
    }

    public long score(int i) {
        return i < 0 || i >= answers.size ? NONE : answers.scores[i];
    }

    public int made() {
        return product.length;
    }

    public int out(int i) {
        return i < 0 || i >= product.length ? NONE : product.data[i] & 255;
    }

    private int lineTo() {
        return indexOf(tape.data, LINE_END, 0, tape.length);
    }

    private int restFrom() {
        return Math.min(lineTo() + 1, tape.length);
    }

    /** A 13 before the line's end needs no care: a reference is trimmed, and 13 is a blank. */
    private boolean resolveLine() {
        return addresses.resolve(tape.data, 0, lineTo(), null);
    }

    private boolean resolveTape() {
        boolean made = addresses.resolve(tape.data, 0, tape.length, null);
        tape.clear();
        return made;
    }

    private int produceRow(Rows rows, int i) {
        if (i < 0 || i >= rows.size) {
            return NONE;
        }
        product.clear();
        product.putAll(rows.bytes.data, rows.from(i), rows.to(i));
        return product.length;
    }

    private int produceLines(Rows rows) {
        product.clear();
        for (int i = 0; i < rows.size; i++) {
            product.putAll(rows.bytes.data, rows.from(i), rows.to(i));
            product.put(LINE_END);
        }
        return rows.size;
    }

    private static boolean isBlank(int value) {
        return value == 32 || value == 9 || value == 10 || value == 12 || value == 13;
    }

    private static boolean isLetter(int value) {
        return value >= 'a' && value <= 'z' || value >= 'A' && value <= 'Z';
    }

    private static boolean isDigit(int value) {
        return value >= '0' && value <= '9';
    }

    private static int lower(int value) {
        return value >= 'A' && value <= 'Z' ? value + 32 : value;
    }

    private static int hexValue(int value) {
        if (value >= '0' && value <= '9') {
            return value - '0';
        }
        if (value >= 'a' && value <= 'f') {
            return value - 'a' + 10;
        }
        return value >= 'A' && value <= 'F' ? value - 'A' + 10 : NONE;
    }

    /** The byte that a % with its two makes, or NONE where there is no such thing. */
    private static int escapedByte(byte[] text, int at, int to) {
        if (text[at] != '%' || at + 2 >= to) {
            return NONE;
        }
        int high = hexValue(text[at + 1]);
        int low = hexValue(text[at + 2]);
        return high == NONE || low == NONE ? NONE : 16 * high + low;
    }

    /** Where the value stands first, or to: so that a part that is missing ends where all ends. */
    private static int indexOf(byte[] text, int value, int from, int to) {
        int at = from;
        while (at < to && text[at] != value) {
            at++;
        }
        return at;
    }

    private static int trimmedFrom(byte[] text, int from, int to) {
        int at = from;
        while (at < to && isBlank(text[at])) {
            at++;
        }
        return at;
    }

    private static int trimmedTo(byte[] text, int from, int to) {
        int at = to;
        while (at > from && isBlank(text[at - 1])) {
            at--;
        }
        return at;
    }

    /** From the end on, since addresses of one web mostly differ there. */
    private static boolean sameBytes(byte[] a, int aFrom, byte[] b, int bFrom, int length) {
        for (int i = length - 1; i >= 0; i--) {
            if (a[aFrom + i] != b[bFrom + i]) {
                return false;
            }
        }
        return true;
    }

    private static boolean isLower(byte[] text, int from, int to, String lowerWord) {
        if (to - from != lowerWord.length()) {
            return false;
        }
        for (int i = 0; i < lowerWord.length(); i++) {
            if (lower(text[from + i]) != lowerWord.charAt(i)) {
                return false;
            }
        }
        return true;
    }

    private static boolean beginsWith(byte[] text, int from, int to, String lowerBeginning) {
        int stop = from + lowerBeginning.length();
        return stop <= to && isLower(text, from, stop, lowerBeginning);
    }

    private static int siteTo(byte[] address, int to) {
        return indexOf(address, '/', SCHEME.length(), to);
    }

    /** A row of bytes that grows, and is used again rather than made again. */
    private static final class Bytes {
        byte[] data;
        int length;

        Bytes(int room) {
            data = new byte[room];
        }

        void clear() {
            length = 0;
        }

        void become(Bytes other) {
            length = 0;
            putAll(other.data, 0, other.length);
        }

        void put(int value) {
            if (length == data.length) {
                data = Arrays.copyOf(data, 2 * length + 16);
            }
            data[length] = (byte) value;
            length++;
        }

        void putInt(int value) {
            put(value >> 24);
            put(value >> 16);
            put(value >> 8);
            put(value);
        }

        void putAll(byte[] text, int from, int to) {
            int more = to - from;
            if (length + more > data.length) {
                data = Arrays.copyOf(data, Math.max(2 * data.length, length + more));
            }
            System.arraycopy(text, from, data, length, more);
            length += more;
        }

        void putLower(byte[] text, int from, int to) {
            for (int i = from; i < to; i++) {
                put(lower(text[i]));
            }
        }

        void putText(String text) {
            for (int i = 0; i < text.length(); i++) {
                put(text.charAt(i));
            }
        }

        /** Each % with its two in the one form that it has in addresses; a % without them stays. */
        void putUnescaped(byte[] text, int from, int to) {
            int at = from;
            while (at < to) {
                int value = escapedByte(text, at, to);
                if (value == NONE) {
                    put(text[at]);
                    at++;
                    continue;
                }
                if (isLetter(value) || isDigit(value) || "-._~".indexOf((char) value) >= 0) {
                    put(value);
                } else {
                    put('%');
                    put(HEX.charAt(value / 16));
                    put(HEX.charAt(value % 16));
                }
                at += 3;
            }
        }
    }

    /** Rows of bytes one behind the other in a single array, so that many of them need few objects. */
    private static final class Rows {
        final Bytes bytes;
        int[] ends;
        int size;

        Rows(int byteRoom, int rowRoom) {
            bytes = new Bytes(byteRoom);
            ends = new int[rowRoom];
        }

        void clear() {
            cut(0);
        }

        void cut(int rows) {
            if (rows <= size) {
                size = rows;
                bytes.length = from(rows);
            }
        }

        int from(int i) {
            return i == 0 ? 0 : ends[i - 1];
        }

        int to(int i) {
            return ends[i];
        }

        void add(byte[] text, int from, int to) {
            bytes.putAll(text, from, to);
            close();
        }

        /** What was put behind the last row is a row then. */
        void close() {
            if (size == ends.length) {
                ends = Arrays.copyOf(ends, 2 * size + 16);
            }
            ends[size] = bytes.length;
            size++;
        }

        boolean same(int i, byte[] text, int from, int to) {
            int start = from(i);
            return ends[i] - start == to - from && sameBytes(bytes.data, start, text, from, to - from);
        }

        int numberOf(byte[] text, int from, int to) {
            for (int i = 0; i < size; i++) {
                if (same(i, text, from, to)) {
                    return i;
                }
            }
            return NONE;
        }

        boolean isBefore(int i, int j) {
            int a = from(i);
            int b = from(j);
            int shared = Math.min(ends[i] - a, ends[j] - b);
            for (int k = 0; k < shared; k++) {
                if (bytes.data[a + k] != bytes.data[b + k]) {
                    return bytes.data[a + k] < bytes.data[b + k];
                }
            }
            return ends[i] - a < ends[j] - b;
        }
    }

    /** Makes addresses of references. */
    private static final class AddressReader {
        private static final int USUAL_PORT = 80;
        private static final int MOST_PORT = 65535;
        private static final int MOST_PORT_DIGITS = 5;

        final Bytes result = new Bytes(512);
        private final Bytes path = new Bytes(512);

        /** Answers whether an address came of it, which is the result then; a base that is null or empty is none. */
        boolean resolve(byte[] text, int start, int stop, Bytes base) {
            result.clear();
            path.clear();
            int from = trimmedFrom(text, start, stop);
            int to = indexOf(text, '#', from, trimmedTo(text, from, stop));
            if (!isClean(text, from, to)) {
                return false;
            }
            int colon = indexOf(text, ':', from, to);
            if (colon < Math.min(indexOf(text, '/', from, to), indexOf(text, '?', from, to))) {
                if (!isLower(text, from, colon, "http") || !beginsWith(text, colon + 1, to, "//")) {
                    return false;
                }
                from = colon + 1;
            }
            int ownFrom = beginsWith(text, from, to, "//")
                    ? joinHost(text, from + 2, to) : joinBase(text, from, to, base);
            if (ownFrom == NONE) {
                return false;
            }
            path.putUnescaped(text, ownFrom, to);
            foldPath();
            if (result.length > MOST_ADDRESS) {
                result.clear();
            }
            return result.length > 0;
        }

        private static boolean isClean(byte[] text, int from, int to) {
            for (int i = from; i < to; i++) {
                int value = text[i];
                if (value < 33 || value > 126 || "\"<>\\^`{|}".indexOf((char) value) >= 0) {
                    return false;
                }
                if (value == '%' && escapedByte(text, i, to) == NONE) {
                    return false;
                }
            }
            return true;
        }

        /** Answers from where on the text is path and query, or NONE when the host is not such. */
        private int joinHost(byte[] text, int from, int to) {
            int hostTo = Math.min(indexOf(text, '/', from, to), indexOf(text, '?', from, to));
            int colon = indexOf(text, ':', from, hostTo);
            int portFrom = Math.min(colon + 1, hostTo);
            int port = portOf(text, portFrom, hostTo);
            if (!isHost(text, from, colon) || port == NONE) {
                return NONE;
            }
            result.putText(SCHEME);
            result.putLower(text, from, colon);
            if (port != USUAL_PORT) {
                while (portFrom < hostTo - 1 && text[portFrom] == '0') {
                    portFrom++;
                }
                result.put(':');
                result.putAll(text, portFrom, hostTo);
            }
            return hostTo;
        }

        private static boolean isHost(byte[] text, int from, int to) {
            if (to == from || to - from > MOST_HOST) {
                return false;
            }
            for (int i = from; i < to; i++) {
                int value = text[i];
                if (!isLetter(value) && !isDigit(value) && value != '-' && value != '.') {
                    return false;
                }
            }
            return true;
        }

        private static int portOf(byte[] text, int from, int to) {
            if (to - from > MOST_PORT_DIGITS) {
                return NONE;
            }
            int port = 0;
            for (int i = from; i < to; i++) {
                if (!isDigit(text[i])) {
                    return NONE;
                }
                port = 10 * port + text[i] - '0';
            }
            if (from == to) {
                return USUAL_PORT;
            }
            return port > MOST_PORT ? NONE : port;
        }

        /** Answers from where on the text is path and query behind what is the base's, or NONE without a base. */
        private int joinBase(byte[] text, int from, int to, Bytes base) {
            if (base == null || base.length == 0) {
                return NONE;
            }
            int siteEnd = siteTo(base.data, base.length);
            int basePathTo = indexOf(base.data, '?', siteEnd, base.length);
            result.putAll(base.data, 0, siteEnd);
            int question = indexOf(text, '?', from, to);
            if (question == from) {
                path.putAll(base.data, siteEnd, question == to ? base.length : basePathTo);
            } else if (text[from] != '/') {
                path.putAll(base.data, siteEnd, behindLastSlash(base.data, siteEnd, basePathTo));
            }
            return from;
        }

        private static int behindLastSlash(byte[] text, int from, int to) {
            int at = to;
            while (at > from && text[at - 1] != '/') {
                at--;
            }
            return at;
        }

        private void foldPath() {
            int siteEnd = result.length;
            int pathTo = indexOf(path.data, '?', 0, path.length);
            boolean endsOpen = pathTo == 0;
            for (int from = 1; from <= pathTo; from++) {
                int to = indexOf(path.data, '/', from, pathTo);
                boolean one = isLower(path.data, from, to, ".");
                boolean two = isLower(path.data, from, to, "..");
                endsOpen = one || two;
                if (two) {
                    dropSegment(siteEnd);
                } else if (!one) {
                    result.put('/');
                    result.putAll(path.data, from, to);
                }
                from = to;
            }
            if (endsOpen) {
                result.put('/');
            }
            result.putAll(path.data, pathTo, path.length);
        }

        private void dropSegment(int siteEnd) {
            int behindSlash = behindLastSlash(result.data, siteEnd, result.length);
            result.length = Math.max(siteEnd, behindSlash - 1);
        }
    }

    /** Goes through a page's text from one tag, remark or run of plain bytes to the next. */
    private static final class PageScanner {
        static final int END = 0;
        static final int PLAIN = 1;
        static final int TAG = 2;
        static final int REMARK = 3;

        int from;
        int hrefFrom;
        int hrefTo;
        int at;
        private byte[] text;
        private int to;
        private int nameFrom;
        private int nameTo;
        private boolean closing;

        void open(byte[] pageText, int textFrom, int textTo) {
            text = pageText;
            at = textFrom;
            to = textTo;
        }

        /** The kind of what is from 'from' up to 'at' then. */
        int next() {
            from = at;
            hrefFrom = NONE;
            if (at >= to) {
                return END;
            }
            int kind = kindAt(at);
            if (kind == TAG) {
                return passTag();
            }
            if (kind == REMARK) {
                at = remarkTo();
                return REMARK;
            }
            at++;
            while (at < to && kindAt(at) == PLAIN) {
                at++;
            }
            return PLAIN;
        }

        /** Whether what was passed last is an opening tag of that name with a href. */
        boolean hasHref(String lowerName) {
            return !closing && hrefFrom != NONE && isLower(text, nameFrom, nameTo, lowerName);
        }

        private int kindAt(int i) {
            if (text[i] != '<' || i + 1 >= to) {
                return PLAIN;
            }
            int value = text[i + 1];
            if (isLetter(value) || value == '/' && i + 2 < to && isLetter(text[i + 2])) {
                return TAG;
            }
            return value == '!' || value == '?' || value == '/' ? REMARK : PLAIN;
        }

        private int remarkTo() {
            if (!beginsWith(text, at, to, "<!--")) {
                return Math.min(indexOf(text, '>', at, to) + 1, to);
            }
            for (int i = at + 4; i + 2 < to; i++) {
                if (text[i] == '-' && text[i + 1] == '-' && text[i + 2] == '>') {
                    return i + 3;
                }
            }
            return to;
        }

        /** A tag that the text's end ends is told as a remark: it counts for nothing, but is not plain. */
        private int passTag() {
            closing = text[at + 1] == '/';
            nameFrom = closing ? at + 2 : at + 1;
            nameTo = tagNameEnd(nameFrom);
            at = nameTo;
            for (int turns = to - at; turns > 0 && at < to; turns--) {
                int value = text[at];
                if (value == '>') {
                    at = rawTo(at + 1);
                    return TAG;
                }
                if (isBlank(value) || value == '/') {
                    at++;
                } else {
                    passAttribute();
                }
            }
            hrefFrom = NONE;
            return REMARK;
        }

        private int tagNameEnd(int start) {
            int i = start;
            while (i < to && !isBlank(text[i]) && text[i] != '/' && text[i] != '>') {
                i++;
            }
            return i;
        }

        private int attributeNameEnd(int start) {
            int i = start;
            while (i < to && !isBlank(text[i]) && text[i] != '/' && text[i] != '>' && text[i] != '=') {
                i++;
            }
            return i;
        }

        private void passAttribute() {
            int start = at;
            // The first byte is of the name whatever it is, also a =.
            int stop = attributeNameEnd(at + 1);
            int valueFrom = stop;
            int valueTo = stop;
            at = stop;
            int sign = trimmedFrom(text, stop, to);
            if (sign < to && text[sign] == '=') {
                valueFrom = trimmedFrom(text, sign + 1, to);
                boolean quoted = valueFrom < to && (text[valueFrom] == '"' || text[valueFrom] == '\'');
                valueFrom = quoted ? valueFrom + 1 : valueFrom;
                valueTo = quoted ? indexOf(text, text[valueFrom - 1], valueFrom, to) : bareValueTo(valueFrom);
                at = quoted ? Math.min(valueTo + 1, to) : valueTo;
            }
            if (hrefFrom == NONE && isLower(text, start, stop, "href")) {
                hrefFrom = valueFrom;
                hrefTo = valueTo;
            }
        }

        private int bareValueTo(int start) {
            int i = start;
            while (i < to && !isBlank(text[i]) && text[i] != '>') {
                i++;
            }
            return i;
        }

        /** Behind an opening script or style all is a remark up to its closing tag. */
        private int rawTo(int start) {
            boolean raw = isLower(text, nameFrom, nameTo, "script") || isLower(text, nameFrom, nameTo, "style");
            if (closing || !raw) {
                return start;
            }
            String name = nameTo - nameFrom == 6 ? "</script" : "</style";
            for (int i = start; i + name.length() < to; i++) {
                int behind = text[i + name.length()];
                if ((isBlank(behind) || behind == '/' || behind == '>') && isLower(text, i, i + name.length(), name)) {
                    return i;
                }
            }
            return to;
        }
    }

    /** Reads links and words of pages. */
    private static final class PageReader {
        private static final int MOST_NUMBER_DIGITS = 6;
        private static final int LONGEST_REFERENCE = 10;

        final Rows links = new Rows(512, MOST_LINKS);
        final Rows words = new Rows(512, 128);
        private final AddressReader addresses;
        private final PageScanner scanner = new PageScanner();
        private final Bytes base = new Bytes(MOST_ADDRESS);
        private final Bytes plain = new Bytes(512);

        PageReader(AddressReader addressReader) {
            addresses = addressReader;
        }

        /** Twice through the text, since a base counts for the links before it, too. */
        void readLinks(byte[] text, int from, int to, Bytes address) {
            base.become(address);
            scanner.open(text, from, to);
            for (int turns = to - from; turns > 0 && scanner.next() != PageScanner.END; turns--) {
                if (scanner.hasHref("base")) {
                    decode(text, scanner.hrefFrom, scanner.hrefTo);
                    if (addresses.resolve(plain.data, 0, plain.length, address)) {
                        base.become(addresses.result);
                        break;
                    }
                }
            }
            links.clear();
            scanner.open(text, from, to);
            for (int turns = to - from; turns > 0 && scanner.next() != PageScanner.END; turns--) {
                if (links.size < MOST_LINKS && scanner.hasHref("a")) {
                    decode(text, scanner.hrefFrom, scanner.hrefTo);
                    if (addresses.resolve(plain.data, 0, plain.length, base)) {
                        addLink(addresses.result);
                    }
                }
            }
        }

        private void addLink(Bytes link) {
            if (links.numberOf(link.data, 0, link.length) == NONE) {
                links.add(link.data, 0, link.length);
            }
        }

        /** The words come behind those that the rows have already. */
        void readWords(byte[] text, int from, int to, Rows into) {
            scanner.open(text, from, to);
            for (int turns = to - from; turns > 0; turns--) {
                int kind = scanner.next();
                if (kind == PageScanner.END) {
                    return;
                }
                if (kind == PageScanner.PLAIN) {
                    decode(text, scanner.from, scanner.at);
                    splitWords(plain, into);
                }
            }
        }

        static void splitWords(Bytes bytes, Rows into) {
            int length = 0;
            for (int i = 0; i < bytes.length; i++) {
                int value = bytes.data[i];
                if (isLetter(value) || isDigit(value)) {
                    if (length < MOST_WORD) {
                        into.bytes.put(lower(value));
                    }
                    length++;
                } else if (length > 0) {
                    into.close();
                    length = 0;
                }
            }
            if (length > 0) {
                into.close();
            }
        }

        private void decode(byte[] text, int from, int to) {
            plain.clear();
            int at = from;
            while (at < to) {
                int value = NONE;
                int behind = at + 1;
                if (text[at] == '&') {
                    int window = Math.min(to, at + LONGEST_REFERENCE);
                    int semicolon = indexOf(text, ';', behind, window);
                    value = semicolon == window ? NONE : referenced(text, behind, semicolon);
                    behind = value == NONE ? behind : semicolon + 1;
                }
                plain.put(value == NONE ? text[at] : value);
                at = behind;
            }
        }

        /** The byte that what stands between & and ; means, or NONE. */
        private static int referenced(byte[] text, int from, int to) {
            if (from < to && text[from] == '#') {
                boolean hex = from + 1 < to && lower(text[from + 1]) == 'x';
                return numbered(text, hex ? from + 2 : from + 1, to, hex ? 16 : 10);
            }
            if (isExactly(text, from, to, "amp")) {
                return '&';
            }
            if (isExactly(text, from, to, "lt")) {
                return '<';
            }
            if (isExactly(text, from, to, "gt")) {
                return '>';
            }
            if (isExactly(text, from, to, "quot")) {
                return '"';
            }
            return isExactly(text, from, to, "apos") ? '\'' : NONE;
        }

        private static boolean isExactly(byte[] text, int from, int to, String word) {
            if (to - from != word.length()) {
                return false;
            }
            for (int i = 0; i < word.length(); i++) {
                if (text[from + i] != word.charAt(i)) {
                    return false;
                }
            }
            return true;
        }

        private static int numbered(byte[] text, int from, int to, int radix) {
            if (to <= from || to - from > MOST_NUMBER_DIGITS) {
                return NONE;
            }
            int number = 0;
            for (int i = from; i < to; i++) {
                int digit = hexValue(text[i]);
                if (digit == NONE || digit >= radix) {
                    return NONE;
                }
                number = radix * number + digit;
            }
            return number >= 32 && number <= 126 ? number : ' ';
        }
    }

    /** A page as it was told once; never changed, so that who got it keeps its text whatever is told later. */
    private static final class Page {
        final byte[] address;
        final int status;
        final byte[] text;

        Page(Bytes pageAddress, int pageStatus, Bytes tape, int textFrom) {
            address = Arrays.copyOf(pageAddress.data, pageAddress.length);
            status = pageStatus;
            text = Arrays.copyOfRange(tape.data, textFrom, tape.length);
        }

        boolean isAt(Bytes other) {
            return address.length == other.length && sameBytes(address, 0, other.data, 0, other.length);
        }

        boolean hasTextOf(Page other) {
            return text.length == other.text.length && sameBytes(text, 0, other.text, 0, text.length);
        }
    }

    /** The rules that hold for one site. */
    private static final class SiteRules {
        final Bytes site = new Bytes(MOST_HOST + 6);
        private final Rows allows = new Rows(64, 8);
        private final Rows disallows = new Rows(64, 8);

        int tell(byte[] text, int from, int to) {
            if (!collect(text, from, to, "finder")) {
                collect(text, from, to, "*");
            }
            return allows.size + disallows.size;
        }

        /** Takes the rules of all groups with that agent; answers whether there is such a group. */
        private boolean collect(byte[] text, int from, int to, String agent) {
            allows.clear();
            disallows.clear();
            boolean seen = false;
            boolean amongAgents = false;
            boolean holds = false;
            for (int at = from; at < to; at++) {
                int lineTo = indexOf(text, LINE_END, at, to);
                int stop = indexOf(text, '#', at, lineTo);
                int colon = indexOf(text, ':', at, stop);
                int keyFrom = trimmedFrom(text, at, colon);
                int keyTo = trimmedTo(text, keyFrom, colon);
                int valueFrom = trimmedFrom(text, Math.min(colon + 1, stop), stop);
                int valueTo = trimmedTo(text, valueFrom, stop);
                at = lineTo;
                if (colon == stop) {
                    continue;
                }
                if (isLower(text, keyFrom, keyTo, "user-agent")) {
                    boolean named = isLower(text, valueFrom, valueTo, agent);
                    holds = named || amongAgents && holds;
                    seen = seen || named;
                    amongAgents = true;
                } else if (isLower(text, keyFrom, keyTo, "allow")) {
                    amongAgents = false;
                    addPattern(allows, text, valueFrom, holds ? valueTo : valueFrom);
                } else if (isLower(text, keyFrom, keyTo, "disallow")) {
                    amongAgents = false;
                    addPattern(disallows, text, valueFrom, holds ? valueTo : valueFrom);
                }
            }
            return seen;
        }

        private static void addPattern(Rows patterns, byte[] text, int from, int to) {
            if (from < to) {
                patterns.bytes.putUnescaped(text, from, to);
                patterns.close();
            }
        }

        /** Where nothing matches both lengths are NONE, and the address is allowed. */
        boolean allows(Bytes address) {
            return longestMatch(allows, address) >= longestMatch(disallows, address);
        }

        private static int longestMatch(Rows patterns, Bytes address) {
            int longest = NONE;
            for (int i = 0; i < patterns.size; i++) {
                int length = patterns.to(i) - patterns.from(i);
                if (length > longest && matches(patterns, i, address)) {
                    longest = length;
                }
            }
            return longest;
        }

        /** Each piece between two * is taken where it comes first: that leaves the most for those behind. */
        private static boolean matches(Rows patterns, int i, Bytes address) {
            byte[] pattern = patterns.bytes.data;
            int from = patterns.from(i);
            boolean toEnd = pattern[patterns.to(i) - 1] == '$';
            int to = toEnd ? patterns.to(i) - 1 : patterns.to(i);
            int at = siteTo(address.data, address.length);
            int pieceTo = indexOf(pattern, '*', from, to);
            if (!standsAt(pattern, from, pieceTo, address, at)) {
                return false;
            }
            at += pieceTo - from;
            boolean starred = pieceTo < to;
            int pieceFrom = pieceTo + 1;
            while (pieceFrom <= to) {
                pieceTo = indexOf(pattern, '*', pieceFrom, to);
                if (toEnd && pieceTo == to) {
                    int last = address.length - (pieceTo - pieceFrom);
                    return last >= at && standsAt(pattern, pieceFrom, pieceTo, address, last);
                }
                at = firstPlace(pattern, pieceFrom, pieceTo, address, at);
                if (at == NONE) {
                    return false;
                }
                at += pieceTo - pieceFrom;
                pieceFrom = pieceTo + 1;
            }
            return starred || !toEnd || at == address.length;
        }

        private static boolean standsAt(byte[] pattern, int from, int to, Bytes address, int at) {
            return at + to - from <= address.length && sameBytes(pattern, from, address.data, at, to - from);
        }

        private static int firstPlace(byte[] pattern, int from, int to, Bytes address, int start) {
            for (int at = start; at + to - from <= address.length; at++) {
                if (sameBytes(pattern, from, address.data, at, to - from)) {
                    return at;
                }
            }
            return NONE;
        }
    }

    /** What was told of the web: its pages, and the rules of its sites. */
    private static final class Web {
        int pageCount;
        private final Page[] pages = new Page[MOST_PAGES];
        private final SiteRules[] sites = new SiteRules[MOST_RULED_SITES];
        private int siteCount;

        private int pageNumber(Bytes address) {
            for (int i = 0; i < pageCount; i++) {
                if (pages[i].isAt(address)) {
                    return i;
                }
            }
            return NONE;
        }

        /** Null when there is none. */
        Page pageAt(Bytes address) {
            int i = pageNumber(address);
            return i == NONE ? null : pages[i];
        }

        int tellPage(Bytes address, int status, Bytes tape, int textFrom) {
            int i = pageNumber(address);
            if (i == NONE && pageCount == MOST_PAGES) {
                return NONE;
            }
            if (i == NONE) {
                i = pageCount;
                pageCount++;
            }
            pages[i] = new Page(address, status, tape, textFrom);
            return pageCount;
        }

        boolean dropPage(Bytes address) {
            int i = pageNumber(address);
            if (i == NONE) {
                return false;
            }
            pageCount--;
            pages[i] = pages[pageCount];
            pages[pageCount] = null;
            return true;
        }

        private int siteNumber(Bytes address) {
            int from = SCHEME.length();
            int length = siteTo(address.data, address.length) - from;
            for (int i = 0; i < siteCount; i++) {
                Bytes site = sites[i].site;
                if (site.length == length && sameBytes(site.data, 0, address.data, from, length)) {
                    return i;
                }
            }
            return NONE;
        }

        int tellRules(Bytes address, Bytes tape, int textFrom) {
            int i = siteNumber(address);
            if (i == NONE && siteCount == MOST_RULED_SITES) {
                return NONE;
            }
            if (i == NONE) {
                i = siteCount;
                sites[i] = new SiteRules();
                sites[i].site.putAll(address.data, SCHEME.length(), siteTo(address.data, address.length));
                siteCount++;
            }
            return sites[i].tell(tape.data, textFrom, tape.length);
        }

        boolean allows(Bytes address) {
            int i = siteNumber(address);
            return i == NONE || sites[i].allows(address);
        }
    }

    /** One crawl through the web. */
    private static final class Crawl {
        static final int STATE = 0;
        static final int DEPTH = 1;
        static final int CHAIN = 2;
        static final int LEAD = 3;
        static final int MARKS = 4;

        static final int WAITING = 1;
        static final int GOT = 2;
        static final int LEADS_ON = 3;
        static final int NOT_ALLOWED = 4;
        static final int FAILED = 5;

        boolean started;
        int clock;
        int askings;
        final Rows addresses = new Rows(1024, MOST_KNOWN);
        final int[][] marks = new int[MARKS][MOST_KNOWN];
        final Page[] pages = new Page[MOST_KNOWN];
        final Rows asked = new Rows(1024, MOST_TOLD_ASKINGS);
        final int[] askedClocks = new int[MOST_TOLD_ASKINGS];
        private final Web web;
        private final AddressReader reader;
        private final PageReader pageReader;
        private final int[] limits = new int[4];
        private final Bytes here = new Bytes(MOST_ADDRESS);
        private final int[] askedAt = new int[MOST_KNOWN];
        private final int[][] savedMarks = new int[MARKS][MOST_KNOWN];
        private int savedSize;
        private int askingsSinceSaved;
        private int crashClock;

        Crawl(Web webToCrawl, AddressReader addressReader, PageReader readerOfPages) {
            web = webToCrawl;
            reader = addressReader;
            pageReader = readerOfPages;
        }

        void begin(Rows seeds, int[] settings) {
            System.arraycopy(settings, 0, limits, 0, limits.length);
            started = true;
            clock = 0;
            crashClock = NONE;
            askings = 0;
            asked.clear();
            addresses.clear();
            for (int i = 0; i < seeds.size; i++) {
                meet(seeds.bytes.data, seeds.from(i), seeds.to(i), 0, 0);
            }
            save();
        }

        int waiting() {
            int waiting = 0;
            for (int i = 0; i < addresses.size; i++) {
                if (marks[STATE][i] == WAITING) {
                    waiting++;
                }
            }
            return waiting;
        }

        int takeStep() {
            int i = nextWaiting();
            if (i == NONE) {
                return NONE;
            }
            here.clear();
            here.putAll(addresses.bytes.data, addresses.from(i), addresses.to(i));
            if (!web.allows(here)) {
                marks[STATE][i] = NOT_ALLOWED;
                return NOT_ALLOWED;
            }
            letRest();
            noteAsking(i);
            Page page = web.pageAt(here);
            marks[STATE][i] = FAILED;
            if (page != null && page.status == 200) {
                pageReader.readLinks(page.text, 0, page.text.length, here);
                keepPage(i, page);
            } else if (page != null && mayLeadOn(i, page)
                    && reader.resolve(page.text, 0, indexOf(page.text, LINE_END, 0, page.text.length), here)) {
                leadOn(i, reader.result);
            }
            if (askingsSinceSaved >= limits[EVERY_SETTING]) {
                save();
            }
            return marks[STATE][i];
        }

        private void keepPage(int i, Page page) {
            marks[STATE][i] = GOT;
            pages[i] = page;
            Rows links = pageReader.links;
            for (int k = 0; k < links.size; k++) {
                meet(links.bytes.data, links.from(k), links.to(k), marks[DEPTH][i] + 1, 0);
            }
        }

        private boolean mayLeadOn(int i, Page page) {
            return page.status >= 300 && page.status <= 399 && marks[CHAIN][i] < limits[CHAIN_SETTING];
        }

        private void leadOn(int i, Bytes address) {
            marks[STATE][i] = LEADS_ON;
            marks[LEAD][i] = meet(address.data, 0, address.length, marks[DEPTH][i], marks[CHAIN][i] + 1);
        }

        private int nextWaiting() {
            int best = NONE;
            for (int i = 0; i < addresses.size; i++) {
                if (marks[STATE][i] == WAITING
                        && (best == NONE || isLess(marks[DEPTH][i], marks[CHAIN][i], best))) {
                    best = i;
                }
            }
            return best;
        }

        private boolean isLess(int depth, int chain, int i) {
            return depth < marks[DEPTH][i] || depth == marks[DEPTH][i] && chain < marks[CHAIN][i];
        }

        private void letRest() {
            int last = crashClock;
            // With the / behind the site, so that a site that only begins with this one is another.
            int length = siteTo(here.data, here.length) + 1;
            for (int i = 0; i < addresses.size; i++) {
                if (askedAt[i] > last && beginsAsHere(i, length)) {
                    last = askedAt[i];
                }
            }
            if (last != NONE) {
                clock = Math.max(clock, last + limits[REST_SETTING]);
            }
        }

        private boolean beginsAsHere(int i, int length) {
            int from = addresses.from(i);
            return addresses.to(i) - from >= length && sameBytes(addresses.bytes.data, from, here.data, 0, length);
        }

        private void noteAsking(int i) {
            if (asked.size < MOST_TOLD_ASKINGS) {
                askedClocks[asked.size] = clock;
                asked.add(here.data, 0, here.length);
            }
            askedAt[i] = clock;
            askings++;
            askingsSinceSaved++;
            clock++;
        }

        /** Finds an address; answers its number, or NONE when it is not known then either. */
        private int meet(byte[] address, int from, int to, int depth, int chain) {
            int i = addresses.numberOf(address, from, to);
            if (i != NONE) {
                if (marks[STATE][i] == WAITING && isLess(depth, chain, i)) {
                    marks[DEPTH][i] = depth;
                    marks[CHAIN][i] = chain;
                }
                return i;
            }
            i = addresses.size;
            if (depth > limits[DEPTH_SETTING] || chain > limits[CHAIN_SETTING] || i >= MOST_KNOWN) {
                return NONE;
            }
            addresses.add(address, from, to);
            marks[STATE][i] = WAITING;
            marks[DEPTH][i] = depth;
            marks[CHAIN][i] = chain;
            marks[LEAD][i] = NONE;
            askedAt[i] = NONE;
            return i;
        }

        /** The pages got are not copied: who was got when it was saved is not asked for again. */
        private void save() {
            savedSize = addresses.size;
            copyMarks(marks, savedMarks);
            askingsSinceSaved = 0;
        }

        void loseMemory() {
            addresses.cut(savedSize);
            copyMarks(savedMarks, marks);
            askingsSinceSaved = 0;
            // Later than each asking so far, so that none of these counts any more.
            crashClock = clock;
        }

        private void copyMarks(int[][] from, int[][] to) {
            for (int k = 0; k < MARKS; k++) {
                System.arraycopy(from[k], 0, to[k], 0, savedSize);
            }
        }
    }

    /** What was found of a crawl: documents with their ranks, and all their words place by place. */
    private static final class Documents {
        private static final int ALL_RANK = 1000000;
        private static final int SHARED_RANK = 150000;

        int size;
        final Page[] pages = new Page[MOST_KNOWN];
        final int[] numbers = new int[MOST_KNOWN];
        final int[] ranks = new int[MOST_KNOWN];
        final int[] leadsTo = new int[MOST_KNOWN];
        final int[] ledToBy = new int[MOST_KNOWN];
        final int[] copies = new int[MOST_KNOWN];
        final int[] firstPlaces = new int[MOST_KNOWN + 1];
        final Rows words = new Rows(512, 128);
        private final PageReader reader;
        private final Bytes here = new Bytes(MOST_ADDRESS);
        private final int[] leads = new int[MOST_KNOWN * MOST_LINKS];
        private final int[] nextRanks = new int[MOST_KNOWN];
        private final int[] documentOf = new int[MOST_KNOWN];
        private final int[] order = new int[MOST_KNOWN];

        Documents(PageReader readerOfPages) {
            reader = readerOfPages;
        }

        private int orderGot(Crawl crawl) {
            int got = 0;
            for (int i = 0; i < crawl.addresses.size; i++) {
                if (crawl.marks[Crawl.STATE][i] == Crawl.GOT) {
                    int place = got;
                    while (place > 0 && crawl.addresses.isBefore(i, order[place - 1])) {
                        order[place] = order[place - 1];
                        place--;
                    }
                    order[place] = i;
                    got++;
                }
            }
            return got;
        }

        void foldCopies(Crawl crawl) {
            int got = orderGot(crawl);
            size = 0;
            for (int k = 0; k < got; k++) {
                int i = order[k];
                int d = documentWithText(crawl.pages[i]);
                if (d == NONE) {
                    d = size;
                    pages[d] = crawl.pages[i];
                    numbers[d] = i;
                    copies[d] = 0;
                    ledToBy[d] = 0;
                    size++;
                } else {
                    copies[d]++;
                }
                documentOf[i] = d;
            }
        }

        private int documentWithText(Page page) {
            for (int d = 0; d < size; d++) {
                if (pages[d].hasTextOf(page)) {
                    return d;
                }
            }
            return NONE;
        }

        void followLinks(Crawl crawl, int d) {
            Page page = pages[d];
            here.clear();
            here.putAll(page.address, 0, page.address.length);
            reader.readLinks(page.text, 0, page.text.length, here);
            Rows links = reader.links;
            leadsTo[d] = 0;
            for (int k = 0; k < links.size; k++) {
                int i = crawl.addresses.numberOf(links.bytes.data, links.from(k), links.to(k));
                int other = comesTo(crawl, i);
                if (other != NONE && other != d && !alreadyLeads(d, other)) {
                    leads[d * MOST_LINKS + leadsTo[d]] = other;
                    leadsTo[d]++;
                    ledToBy[other]++;
                }
            }
        }

        private boolean alreadyLeads(int d, int other) {
            for (int k = 0; k < leadsTo[d]; k++) {
                if (leads[d * MOST_LINKS + k] == other) {
                    return true;
                }
            }
            return false;
        }

        private int comesTo(Crawl crawl, int start) {
            int i = start;
            for (int steps = 0; i != NONE && steps <= MOST_LEADING_STEPS; steps++) {
                if (crawl.marks[Crawl.STATE][i] == Crawl.GOT) {
                    return documentOf[i];
                }
                // NONE for all that do not lead on.
                i = crawl.marks[Crawl.LEAD][i];
            }
            return NONE;
        }

        void rank(int rounds) {
            for (int d = 0; d < size; d++) {
                ranks[d] = ALL_RANK / size;
            }
            for (int round = 0; round < rounds; round++) {
                for (int d = 0; d < size; d++) {
                    nextRanks[d] = SHARED_RANK / size;
                }
                for (int d = 0; d < size; d++) {
                    handOnRank(d);
                }
                System.arraycopy(nextRanks, 0, ranks, 0, size);
            }
        }

        private void handOnRank(int d) {
            for (int k = 0; k < leadsTo[d]; k++) {
                nextRanks[leads[d * MOST_LINKS + k]] += 85 * ranks[d] / 100 / leadsTo[d];
            }
        }

        void indexWords() {
            words.clear();
            firstPlaces[0] = 0;
            for (int d = 0; d < size; d++) {
                reader.readWords(pages[d].text, 0, pages[d].text.length, words);
                firstPlaces[d + 1] = words.size;
            }
        }
    }

    /** The hits of the last question. */
    private static final class Answers {
        static final int ANY = 0;
        static final int ALL = 1;
        static final int ROW = 2;

        int size;
        final int[] hits = new int[MOST_KNOWN];
        final long[] scores = new long[MOST_KNOWN];
        private final Rows question = new Rows(256, 64);

        void clear() {
            size = 0;
        }

        void answer(Bytes text, int mode, Documents documents) {
            size = 0;
            question.clear();
            PageReader.splitWords(text, question);
            question.cut(Math.min(question.size, MOST_QUESTION_WORDS));
            for (int d = 0; d < documents.size; d++) {
                int places = mode == ROW ? placesOfRow(documents, d) : placesOfWords(documents, d, mode == ALL);
                if (places > 0) {
                    insert(d, (long) places * documents.ranks[d]);
                }
            }
        }

        /** Documents come by their numbers, so one goes behind all of the same score. */
        private void insert(int d, long score) {
            int place = size;
            while (place > 0 && scores[place - 1] < score) {
                hits[place] = hits[place - 1];
                scores[place] = scores[place - 1];
                place--;
            }
            hits[place] = d;
            scores[place] = score;
            size++;
        }

        private int placesOfRow(Documents documents, int d) {
            int places = 0;
            int lastPlace = documents.firstPlaces[d + 1] - question.size;
            for (int place = documents.firstPlaces[d]; question.size > 0 && place <= lastPlace; place++) {
                int same = 0;
                while (same < question.size && isWordAt(documents, place + same, same)) {
                    same++;
                }
                if (same == question.size) {
                    places++;
                }
            }
            return places;
        }

        private int placesOfWords(Documents documents, int d, boolean each) {
            int places = 0;
            int seen = 0;
            for (int place = documents.firstPlaces[d]; place < documents.firstPlaces[d + 1]; place++) {
                int here = 0;
                for (int k = 0; k < question.size; k++) {
                    if (isWordAt(documents, place, k)) {
                        here |= 1 << k;
                    }
                }
                seen |= here;
                places += here == 0 ? 0 : 1;
            }
            return each && seen != (1 << question.size) - 1 ? 0 : places;
        }

        private boolean isWordAt(Documents documents, int place, int k) {
            return documents.words.same(place, question.bytes.data, question.from(k), question.to(k));
        }
    }
}
