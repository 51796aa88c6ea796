import java.util.Arrays;

/** A JSON Schema validator: a SCHEMA is read and checked, and an INSTANCE is read and evaluated by it. */
public final class SchemaJudge {

    private static final int NONE = -1;

    private static final int NULL = 0;
    private static final int FALSE = 1;
    private static final int TRUE = 2;
    private static final int NUMBER = 3;
    private static final int STRING = 4;
    private static final int ARRAY = 5;
    private static final int OBJECT = 6;

    private static final int MAX_OCTETS = 8192;
    private static final int MAX_FED_WORDS = 2050;
    private static final int WORDS_A_FEED = 5;
    private static final int MAX_NESTED = 40;
    private static final int MAX_CHILDREN = 60;
    private static final int MAX_VALUES = 1000;
    private static final int MAX_CHARACTERS = 4000;
    private static final int MAX_DIGITS = 60;
    private static final int MAX_EXPONENT_DIGITS = 3;
    private static final int MAX_COUNT_KEYWORD = 1000000;
    private static final int MAX_PAIRS = 300;
    private static final int MAX_DEPTH = 100;
    private static final int MAX_EVALUATED = 20000;
    private static final int MAX_GROUPS = 30;
    private static final int MAX_REPEAT = 50;
    private static final int MAX_PATTERN_SIZE = 400;
    // A PATTERN of SIZE s takes at most 3 * s - 1 instructions, and one to end with.
    private static final int MAX_CODE = 1300;
    // Where sizes of what may still be repeated no times stop growing.
    private static final int MANY = 1 << 20;

    // What the VALUE of a KEYWORD has to be.
    private static final int NO_FORM = 0;
    private static final int ONE_SCHEMA = 1;
    private static final int SCHEMA_LIST = 2;
    private static final int SCHEMA_MAP = 3;
    private static final int ANY_NUMBER = 4;
    private static final int ABOVE_ZERO = 5;
    private static final int COUNT = 6;
    private static final int A_PATTERN = 7;
    private static final int REFERENCE = 8;
    private static final int ANCHOR_NAME = 9;
    private static final int TYPE_NAMES = 10;
    private static final int ANY_ARRAY = 11;
    private static final int ANYTHING = 12;
    private static final int FLAG = 13;
    private static final int NAME_LIST = 14;
    private static final int NAME_MAP = 15;
    private static final int REFUSED = 16;

    // What a KEYWORD looks at while it is evaluated.
    private static final int IDLE = 0;
    private static final int ASSERTS = 1;
    private static final int IN_PLACE = 2;
    private static final int ONE_CHILD = 3;
    private static final int EACH_CHILD = 4;

    private static final int EVERY = -1;

    private final Text schemaText;
    private final Text instanceText;
    private final Reader reader;
    private final Program program;
    private final Pattern pattern;
    private final Checker checker;
    private final Judge judge;
    private int wrongAt;

    public SchemaJudge() {
        schemaText = new Text();
        instanceText = new Text();
        reader = new Reader(instanceText);
        program = new Program();
        pattern = new Pattern(program);
        Marks marks = new Marks(schemaText);
        checker = new Checker(schemaText, marks, pattern);
        judge = new Judge(schemaText, marks, instanceText, pattern, program);
        wrongAt = NONE;
    }

    public int feed(int a, int b, int c, int d, int e) throws IndexOutOfBoundsException {
        if (!reader.hasRoom()) {
            throw new IndexOutOfBoundsException("more than 8,200 octets");
        }
        reader.addWord(a);
        reader.addWord(b);
        reader.addWord(c);
        reader.addWord(d);
        reader.addWord(e);
        return reader.octets();
    }

    public int end(boolean schema, int n) throws IndexOutOfBoundsException, IllegalArgumentException {
        if (n < 0 || n > MAX_OCTETS || n > reader.octets()) {
            throw new IndexOutOfBoundsException("not so many octets");
        }
        if (schema) {
            checker.forget();
        }
        Text text = schema ? schemaText : instanceText;
        wrongAt = reader.read(text, n);
        if (wrongAt != NONE) {
            throw new IllegalArgumentException("the text is wrong");
        }
        return text.total();
    }

    public int wrong() {
        return wrongAt;
    }

    public int check() throws IllegalStateException {
        if (schemaText.total() == 0) {
            throw new IllegalStateException("no schema");
        }
        return checker.inspect();
    }

    public int fault() {
        return checker.faultyValue();
    }

    public boolean validate() throws IllegalStateException, UnsupportedOperationException {
        if (instanceText.total() == 0 || !checker.passed()) {
            throw new IllegalStateException("no instance, or no schema without a fault");
        }
        judge.begin();
        boolean good = judge.evaluate(0, 0, 1);
        judge.finish();
        if (judge.isOver()) {
            throw new UnsupportedOperationException("too many schemas, or too deep");
        }
        return good;
    }

    public int pairs() {
        return judge.pairsKept();
    }

    public int pair(int k, boolean keyword) throws IndexOutOfBoundsException {
        if (k < 0 || k >= judge.pairsKept()) {
            throw new IndexOutOfBoundsException("no such pair");
        }
        return judge.pairAt(k, keyword);
    }

    public int value(boolean schema, int v, int what) throws IllegalArgumentException, IndexOutOfBoundsException {
        if (what < 0 || what > 4) {
            throw new IllegalArgumentException("no such question");
        }
        Text text = schema ? schemaText : instanceText;
        if (!text.has(v)) {
            throw new IndexOutOfBoundsException("no such value");
        }
        switch (what) {
            case 0:
                return text.kind(v);
            case 1:
                return text.place(v);
            case 2:
                return text.size(v);
            case 3:
                return text.parent(v);
            default:
                return text.exponent(v);
        }
    }

    public boolean alike(int v, int w) throws IndexOutOfBoundsException {
        if (!instanceText.has(v) || !instanceText.has(w)) {
            throw new IndexOutOfBoundsException("no such value");
        }
        return Text.same(instanceText, v, instanceText, w, 0);
    }

    public boolean matches(int v, int w) throws IndexOutOfBoundsException, IllegalArgumentException {
        if (!instanceText.has(v) || !instanceText.has(w)) {
            throw new IndexOutOfBoundsException("no such value");
        }
        if (instanceText.kind(v) != STRING || instanceText.kind(w) != STRING) {
            throw new IllegalArgumentException("no string");
        }
        if (!pattern.tokenise(instanceText, w) || !pattern.parse()) {
            throw new IllegalArgumentException("no pattern");
        }
        return program.finds(instanceText, v);
    }

    public int count(int what) throws IllegalArgumentException {
        switch (what) {
            case 0:
                return schemaText.total();
            case 1:
                return instanceText.total();
            case 2:
                return judge.evaluatedSchemas();
            case 3:
                return judge.deepest();
            default:
                throw new IllegalArgumentException("no such count");
        }
    }

    private static boolean isDigit(int c) {
        return c >= '0' && c <= '9';
    }

    private static boolean isLetter(int c) {
        return c >= 'a' && c <= 'z' || c >= 'A' && c <= 'Z' || c == '_';
    }

    private static int hexDigit(int c) {
        if (c >= '0' && c <= '9') {
            return c - '0';
        }
        if (c >= 'a' && c <= 'f') {
            return c - 'a' + 10;
        }
        return c >= 'A' && c <= 'F' ? c - 'A' + 10 : NONE;
    }

    private static boolean isSurrogate(int c) {
        return c >= 0xD800 && c <= 0xDFFF;
    }

    /** How many octets follow the first one of a character; NONE if no character begins so. */
    private static int utf8Tail(int lead) {
        if (lead >= 0 && lead < 0x80) {
            return 0;
        }
        if (lead >= 0xC2 && lead <= 0xDF) {
            return 1;
        }
        if (lead >= 0xE0 && lead <= 0xEF) {
            return 2;
        }
        return lead >= 0xF0 && lead <= 0xF4 ? 3 : NONE;
    }

    /** What the first octet of a character gives to it. */
    private static int utf8Head(int lead, int tail) {
        return tail == 0 ? lead : lead & (0x3F >> tail);
    }

    private static boolean utf8Follows(int octet) {
        return octet >= 0x80 && octet <= 0xBF;
    }

    /** Whether a character may be written with so many octets behind the first one. */
    private static boolean utf8Legal(int c, int tail) {
        if (tail == 0) {
            return true;
        }
        int least = tail == 1 ? 0x80 : tail == 2 ? 0x800 : 0x10000;
        return c >= least && c <= 0x10FFFF && !isSurrogate(c);
    }

    /** The VALUES of one TEXT, numbered as they begin; the rows are used again by the next one. */
    private static final class Text {
        private final int[] kinds = new int[MAX_VALUES];
        private final int[] places = new int[MAX_VALUES];
        private final int[] sizes = new int[MAX_VALUES];
        private final int[] parents = new int[MAX_VALUES];
        private final int[] exponents = new int[MAX_VALUES];
        private final int[] starts = new int[MAX_VALUES];
        private final int[] afters = new int[MAX_VALUES];
        private final int[] slots = new int[MAX_VALUES];
        private final boolean[] negatives = new boolean[MAX_VALUES];
        // Characters of strings and digits of numbers: each comes from an octet of its own at least.
        private final int[] cells = new int[MAX_OCTETS];
        private int total;
        private int used;
        private int characters;

        void clear() {
            total = 0;
            used = 0;
            characters = 0;
        }

        int total() {
            return total;
        }

        boolean has(int v) {
            return v >= 0 && v < total;
        }

        int kind(int v) {
            return v >= 0 && v < total ? kinds[v] : NONE;
        }

        int place(int v) {
            return v >= 0 && v < total ? places[v] : NONE;
        }

        /** Elements, members, characters, or digits. */
        int size(int v) {
            return v >= 0 && v < total ? sizes[v] : 0;
        }

        int parent(int v) {
            return v >= 0 && v < total ? parents[v] : NONE;
        }

        int exponent(int v) {
            return v >= 0 && v < total ? exponents[v] : 0;
        }

        /** The place among the children of its VALUE; a name has that of its member. */
        int slot(int v) {
            return v >= 0 && v < total ? slots[v] : 0;
        }

        /** Of a string the character k, of a number the digit k; a number goes on with zeros. */
        int cell(int v, int k) {
            if (v < 0 || v >= total || k < 0 || k >= sizes[v]) {
                return 0;
            }
            int i = starts[v] + k;
            return i >= 0 && i < cells.length ? cells[i] : 0;
        }

        int sign(int v) {
            if (v < 0 || v >= total || sizes[v] == 0) {
                return 0;
            }
            return negatives[v] ? -1 : 1;
        }

        /** The first element, or the VALUE of the first member (its name is the one before it). */
        int firstChild(int v) {
            if (v < 0 || v >= total || sizes[v] == 0 || kinds[v] < ARRAY) {
                return NONE;
            }
            return kinds[v] == ARRAY ? v + 1 : v + 2;
        }

        int nextChild(int c) {
            int p = c >= 0 && c < total ? parents[c] : NONE;
            if (p < 0 || p >= total || slots[c] + 1 >= sizes[p]) {
                return NONE;
            }
            return kinds[p] == ARRAY ? afters[c] : afters[c] + 1;
        }

        int element(int v, int k) {
            int c = firstChild(v);
            for (int i = 0; i < k && c != NONE; i++) {
                c = nextChild(c);
            }
            return c;
        }

        /** The VALUE of the member of v that has the name which is VALUE w of the other TEXT; NONE if there is none. */
        int member(int v, Text other, int w) {
            int c = firstChild(v);
            for (int i = 0; i < size(v); i++) {
                if (sameString(this, c - 1, other, w)) {
                    return c;
                }
                c = nextChild(c);
            }
            return NONE;
        }

        boolean spells(int v, String word) {
            if (v < 0 || v >= total || sizes[v] != word.length() || starts[v] + sizes[v] > cells.length) {
                return false;
            }
            for (int i = 0; i < word.length(); i++) {
                if (cells[starts[v] + i] != word.charAt(i)) {
                    return false;
                }
            }
            return true;
        }

        /** A number that counts, from 0 to 1,000,000; NONE if it is another one. */
        int wholeNumber(int v) {
            if (kind(v) != NUMBER || sign(v) < 0 || exponent(v) < 0 || size(v) + exponent(v) > 7) {
                return NONE;
            }
            int number = 0;
            for (int i = 0; i < size(v) + exponent(v); i++) {
                number = number * 10 + cell(v, i);
            }
            return number > MAX_COUNT_KEYWORD ? NONE : number;
        }

        /** Begins a VALUE: its number, or NONE if there is no room for one. */
        int begin(int kind, int place, int parent, int slot) {
            if (total >= MAX_VALUES) {
                return NONE;
            }
            int v = total;
            total++;
            kinds[v] = kind;
            places[v] = place;
            sizes[v] = 0;
            parents[v] = parent;
            exponents[v] = 0;
            starts[v] = used;
            afters[v] = total;
            slots[v] = slot;
            negatives[v] = false;
            return v;
        }

        /** Ends an array or object of so many children. */
        void endParent(int v, int children) {
            if (v >= 0 && v < total) {
                sizes[v] = children;
                afters[v] = total;
            }
        }

        void endString(int v) {
            if (v >= 0 && v < total) {
                sizes[v] = used - starts[v];
            }
        }

        /** Ends a number: zeros in front of its digits and behind them go, so that what is alike looks alike. */
        void endNumber(int v, boolean negative, int exponent) {
            if (v < 0 || v >= total) {
                return;
            }
            int from = starts[v];
            int to = used;
            while (to > from && cells[to - 1] == 0) {
                to--;
            }
            while (from < to && cells[from] == 0) {
                from++;
            }
            starts[v] = from;
            sizes[v] = to - from;
            exponents[v] = to == from ? 0 : exponent + used - to;
            negatives[v] = negative && to > from;
        }

        boolean addCharacter(int c) {
            if (characters >= MAX_CHARACTERS || used >= cells.length) {
                return false;
            }
            characters++;
            cells[used] = c;
            used++;
            return true;
        }

        void addDigit(int digit) {
            if (used < cells.length) {
                cells[used] = digit;
                used++;
            }
        }

        static boolean sameString(Text a, int v, Text b, int w) {
            if (v < 0 || v >= a.total || w < 0 || w >= b.total || a.sizes[v] != b.sizes[w]) {
                return false;
            }
            int from = a.starts[v];
            int other = b.starts[w];
            int length = a.sizes[v];
            if (from < 0 || from + length > MAX_OCTETS || other < 0 || other + length > MAX_OCTETS) {
                return false;
            }
            for (int i = 0; i < length; i++) {
                if (a.cells[from + i] != b.cells[other + i]) {
                    return false;
                }
            }
            return true;
        }

        /** Numbers, exactly: below 0, 0 or above 0 as the one is below, alike or above the other one. */
        static int compare(Text a, int v, Text b, int w) {
            int sign = a.sign(v);
            if (sign != b.sign(w) || sign == 0) {
                return sign - b.sign(w);
            }
            int top = a.size(v) + a.exponent(v);
            int otherTop = b.size(w) + b.exponent(w);
            if (top != otherTop) {
                return top < otherTop ? -sign : sign;
            }
            for (int i = 0; i < MAX_DIGITS; i++) {
                int digit = a.cell(v, i);
                int other = b.cell(w, i);
                if (digit != other) {
                    return digit < other ? -sign : sign;
                }
            }
            return 0;
        }

        /** Whether two VALUES are alike. */
        static boolean same(Text a, int v, Text b, int w, int depth) {
            int kind = a.kind(v);
            if (kind != b.kind(w) || depth > MAX_NESTED) {
                return false;
            }
            if (kind == NUMBER) {
                return compare(a, v, b, w) == 0;
            }
            if (kind == STRING) {
                return sameString(a, v, b, w);
            }
            if (a.size(v) != b.size(w)) {
                return false;
            }
            int c = a.firstChild(v);
            int mate = b.firstChild(w);
            for (int i = 0; i < a.size(v); i++) {
                int other = kind == ARRAY ? mate : b.member(w, a, c - 1);
                if (other == NONE || !same(a, c, b, other, depth + 1)) {
                    return false;
                }
                c = a.nextChild(c);
                mate = b.nextChild(mate);
            }
            return true;
        }
    }

    /** What was fed, and how it is read: every method that reads answers false, or NONE, where the TEXT is WRONG. */
    private static final class Reader {
        private final int[] words = new int[MAX_FED_WORDS];
        private int wordCount;
        private Text text;
        private int position;
        private int limit;
        private int wrongPlace;

        Reader(Text first) {
            text = first;
        }

        boolean hasRoom() {
            return wordCount + WORDS_A_FEED <= MAX_FED_WORDS;
        }

        void addWord(int word) {
            if (wordCount < words.length) {
                words[wordCount] = word;
                wordCount++;
            }
        }

        int octets() {
            return wordCount * 4;
        }

        /** Reads the first n octets, after which nothing is fed: where they are WRONG, or NONE. */
        int read(Text into, int n) {
            text = into;
            text.clear();
            position = 0;
            limit = n;
            wrongPlace = NONE;
            boolean fine = readValue(NONE, 0, 1);
            if (fine) {
                skipBlanks();
                if (position < limit) {
                    refuse(position);
                }
            }
            if (wrongPlace != NONE) {
                text.clear();
            }
            wordCount = 0;
            return wrongPlace;
        }

        private boolean refuse(int place) {
            wrongPlace = place;
            return false;
        }

        /** The octet that comes next; NONE at the end. */
        private int peek() {
            int word = position >> 2;
            if (position < 0 || position >= limit || word >= words.length) {
                return NONE;
            }
            return words[word] >>> (24 - 8 * (position & 3)) & 255;
        }

        private void skipBlanks() {
            for (int i = 0; i < MAX_OCTETS; i++) {
                int c = peek();
                if (c != 9 && c != 10 && c != 13 && c != 32) {
                    return;
                }
                position++;
            }
        }

        private static int kindThatBegins(int c) {
            switch (c) {
                case 'n':
                    return NULL;
                case 'f':
                    return FALSE;
                case 't':
                    return TRUE;
                case '"':
                    return STRING;
                case '[':
                    return ARRAY;
                case '{':
                    return OBJECT;
                default:
                    return c == '-' || isDigit(c) ? NUMBER : NONE;
            }
        }

        private boolean readValue(int parent, int slot, int depth) {
            skipBlanks();
            int kind = kindThatBegins(peek());
            if (kind == NONE || kind >= ARRAY && depth > MAX_NESTED) {
                return refuse(position);
            }
            int v = text.begin(kind, position, parent, slot);
            if (v == NONE) {
                return refuse(position);
            }
            switch (kind) {
                case NULL:
                    return readWord("null");
                case FALSE:
                    return readWord("false");
                case TRUE:
                    return readWord("true");
                case NUMBER:
                    return readNumber(v);
                case STRING:
                    return readString(v);
                case ARRAY:
                    return readArray(v, depth);
                default:
                    return readObject(v, depth);
            }
        }

        private boolean readWord(String word) {
            for (int i = 0; i < word.length(); i++) {
                if (peek() != word.charAt(i)) {
                    return refuse(position);
                }
                position++;
            }
            return true;
        }

        private boolean readArray(int v, int depth) {
            position++;
            skipBlanks();
            if (peek() == ']') {
                position++;
                return true;
            }
            for (int k = 0; k < MAX_CHILDREN; k++) {
                if (!readValue(v, k, depth + 1)) {
                    return false;
                }
                skipBlanks();
                int c = peek();
                if (c != ',' && c != ']') {
                    return refuse(position);
                }
                position++;
                if (c == ']') {
                    text.endParent(v, k + 1);
                    return true;
                }
            }
            skipBlanks();
            return refuse(position);
        }

        private boolean readObject(int v, int depth) {
            position++;
            skipBlanks();
            if (peek() == '}') {
                position++;
                return true;
            }
            for (int k = 0; k < MAX_CHILDREN; k++) {
                int name = beginName(v, k);
                if (name == NONE || !readString(name) || !endName(v, name) || !readValue(v, k, depth + 1)) {
                    return false;
                }
                skipBlanks();
                int c = peek();
                if (c != ',' && c != '}') {
                    return refuse(position);
                }
                position++;
                // Known so far as its children: the next name is compared with theirs.
                text.endParent(v, k + 1);
                if (c == '}') {
                    return true;
                }
            }
            skipBlanks();
            return refuse(position);
        }

        private int beginName(int v, int slot) {
            skipBlanks();
            int name = peek() == '"' ? text.begin(STRING, position, v, slot) : NONE;
            if (name == NONE) {
                refuse(position);
            }
            return name;
        }

        /** Compares a name with those before it, and reads the colon behind it. */
        private boolean endName(int v, int name) {
            if (text.member(v, text, name) != NONE) {
                return refuse(text.place(name));
            }
            skipBlanks();
            if (peek() != ':') {
                return refuse(position);
            }
            position++;
            return true;
        }

        private boolean readNumber(int v) {
            int at = position;
            boolean negative = peek() == '-';
            if (negative) {
                position++;
            }
            int digits = peek() == '0' ? readDigits(1) : readDigits(MAX_OCTETS);
            if (digits == 0) {
                return refuse(position);
            }
            int behindPoint = 0;
            if (peek() == '.') {
                position++;
                behindPoint = readDigits(MAX_OCTETS);
                if (behindPoint == 0) {
                    return refuse(position);
                }
            }
            boolean fewDigits = digits + behindPoint <= MAX_DIGITS;
            int exponent = 0;
            if (peek() == 'e' || peek() == 'E') {
                position++;
                boolean down = peek() == '-';
                if (down || peek() == '+') {
                    position++;
                }
                int from = position;
                exponent = readExponent();
                if (position == from) {
                    return refuse(position);
                }
                fewDigits = fewDigits && position - from <= MAX_EXPONENT_DIGITS;
                exponent = down ? -exponent : exponent;
            }
            if (!fewDigits) {
                return refuse(at);
            }
            text.endNumber(v, negative, exponent - behindPoint);
            return true;
        }

        /** Reads up to so many digits: how many there were. */
        private int readDigits(int most) {
            for (int i = 0; i < most; i++) {
                int c = peek();
                if (!isDigit(c)) {
                    return i;
                }
                text.addDigit(c - '0');
                position++;
            }
            return most;
        }

        private int readExponent() {
            int exponent = 0;
            for (int i = 0; i < MAX_OCTETS; i++) {
                int c = peek();
                if (!isDigit(c)) {
                    return exponent;
                }
                // Digits beyond the third refuse the number later: they only must not run over.
                if (i < MAX_EXPONENT_DIGITS) {
                    exponent = exponent * 10 + c - '0';
                }
                position++;
            }
            return exponent;
        }

        private boolean readString(int v) {
            position++;
            for (int i = 0; i <= MAX_OCTETS; i++) {
                int octet = peek();
                if (octet == '"') {
                    position++;
                    text.endString(v);
                    return true;
                }
                int at = position;
                int c = octet == '\\' ? readEscape() : readCharacter();
                if (c == NONE) {
                    return false;
                }
                if (!text.addCharacter(c)) {
                    return refuse(at);
                }
            }
            return refuse(position);
        }

        private int readCharacter() {
            int at = position;
            int lead = peek();
            int tail = utf8Tail(lead);
            if (lead < 32 || tail == NONE) {
                refuse(at);
                return NONE;
            }
            int c = utf8Head(lead, tail);
            position++;
            for (int i = 0; i < tail; i++) {
                int octet = peek();
                if (!utf8Follows(octet)) {
                    refuse(at);
                    return NONE;
                }
                c = c << 6 | octet & 0x3F;
                position++;
            }
            if (!utf8Legal(c, tail)) {
                refuse(at);
                return NONE;
            }
            return c;
        }

        private int readEscape() {
            int at = position;
            position++;
            int letter = peek();
            if (letter != 'u') {
                return readShortEscape(letter);
            }
            position++;
            int c = readHex();
            if (!isSurrogate(c)) {
                return c;
            }
            int low = NONE;
            if (c < 0xDC00 && peek() == '\\') {
                position++;
                if (peek() == 'u') {
                    position++;
                    low = readHex();
                }
            }
            if (low < 0xDC00 || low > 0xDFFF) {
                refuse(at);
                return NONE;
            }
            return 0x10000 + (c - 0xD800 << 10) + (low - 0xDC00);
        }

        private int readShortEscape(int letter) {
            int place = position;
            position++;
            switch (letter) {
                case '"':
                case '\\':
                case '/':
                    return letter;
                case 'b':
                    return 8;
                case 'f':
                    return 12;
                case 'n':
                    return 10;
                case 'r':
                    return 13;
                case 't':
                    return 9;
                default:
                    refuse(place);
                    return NONE;
            }
        }

        private int readHex() {
            int number = 0;
            for (int i = 0; i < 4; i++) {
                int digit = hexDigit(peek());
                if (digit == NONE) {
                    refuse(position);
                    return NONE;
                }
                number = number * 16 + digit;
                position++;
            }
            return number;
        }
    }

    /** Whole numbers of up to 63 digits, for multipleOf alone. */
    private static final class LongDivision {
        private static final int LIMBS = 7;
        private static final long BASE = 1000000000L;
        // A divisor below 10 ** 60 has under 200 factors 2 or 5: zeros beyond change nothing.
        private static final int MOST_ZEROS = 200;

        private final long[] divisor = new long[LIMBS];
        private final long[] rest = new long[LIMBS];

        /** Whether number w of b is a whole number of times number v of a, which is above 0. */
        boolean divides(Text a, int v, Text b, int w) {
            int zeros = b.exponent(w) - a.exponent(v);
            if (b.size(w) == 0) {
                return true;
            }
            // c of w ends with another digit than 0, so 10 can not divide it.
            if (zeros < 0) {
                return false;
            }
            Arrays.fill(divisor, 0);
            for (int i = 0; i < a.size(v); i++) {
                append(divisor, a.cell(v, i));
            }
            Arrays.fill(rest, 0);
            int digits = b.size(w) + Math.min(zeros, MOST_ZEROS);
            for (int i = 0; i < digits; i++) {
                append(rest, b.cell(w, i));
                reduce();
            }
            return isZero();
        }

        private static void append(long[] number, int digit) {
            long carry = digit;
            for (int i = 0; i < number.length; i++) {
                long limb = number[i] * 10 + carry;
                carry = limb / BASE;
                number[i] = limb % BASE;
            }
        }

        private void reduce() {
            for (int times = 0; times < 10 && restReaches(); times++) {
                long borrow = 0;
                for (int i = 0; i < LIMBS; i++) {
                    long limb = rest[i] - divisor[i] - borrow;
                    borrow = limb < 0 ? 1 : 0;
                    rest[i] = limb < 0 ? limb + BASE : limb;
                }
            }
        }

        private boolean restReaches() {
            for (int i = LIMBS - 1; i >= 0; i--) {
                if (rest[i] != divisor[i]) {
                    return rest[i] > divisor[i];
                }
            }
            return true;
        }

        private boolean isZero() {
            for (int i = 0; i < LIMBS; i++) {
                if (rest[i] != 0) {
                    return false;
                }
            }
            return true;
        }
    }

    /** The instructions that a PATTERN becomes; all states are followed at once, so time grows with the string alone. */
    private static final class Program {
        static final int CHARACTER = 0;
        static final int DOT = 1;
        static final int CLASS = 2;
        static final int SET = 3;
        static final int AT_BEGINNING = 4;
        static final int AT_END = 5;
        static final int SPLIT = 6;
        static final int JUMP = 7;
        static final int DONE = 8;

        static final int CLASS_D = 1;
        static final int CLASS_NOT_D = 2;
        static final int CLASS_W = 4;
        static final int CLASS_NOT_W = 8;
        static final int CLASS_S = 16;
        static final int CLASS_NOT_S = 32;
        static final int NEGATED = 64;

        private final int[] operations = new int[MAX_CODE];
        private final int[] arguments = new int[MAX_CODE];
        int length;
        // A set: how many ranges, its classes, then the two ends of each range.
        private final int[] sets = new int[2 * MAX_CHARACTERS];
        private int setsUsed;
        private final int[] rounds = new int[MAX_CODE];
        private final int[] stack = new int[MAX_CODE];
        private int top;
        private final int[] waiting = new int[MAX_CODE];
        private int waitingCount;
        private final int[] moved = new int[MAX_CODE];

        void clear() {
            length = 0;
            setsUsed = 0;
        }

        /** What is behind MAX_CODE is counted, not kept: {0} takes it away again, or it is in no PATTERN. */
        void emit(int operation, int argument) {
            if (length < MAX_CODE) {
                operations[length] = operation;
                arguments[length] = argument;
            }
            length = Math.min(length + 1, MANY);
        }

        void insert(int at, int operation, int argument) {
            if (at >= 0 && at <= length && length < MAX_CODE) {
                System.arraycopy(operations, at, operations, at + 1, length - at);
                System.arraycopy(arguments, at, arguments, at + 1, length - at);
                operations[at] = operation;
                arguments[at] = argument;
            }
            length = Math.min(length + 1, MANY);
        }

        int argument(int at) {
            return at >= 0 && at < MAX_CODE ? arguments[at] : NONE;
        }

        void setArgument(int at, int argument) {
            if (at >= 0 && at < MAX_CODE) {
                arguments[at] = argument;
            }
        }

        /** Begins a set: where it stands. */
        int beginSet() {
            int at = setsUsed;
            if (setsUsed + 2 <= sets.length) {
                sets[at] = 0;
                sets[at + 1] = 0;
                setsUsed += 2;
            }
            return at;
        }

        void addClass(int set, int flag) {
            if (set >= 0 && set + 1 < sets.length) {
                sets[set + 1] |= flag;
            }
        }

        void addRange(int set, int from, int to) {
            if (set >= 0 && set < sets.length && setsUsed + 2 <= sets.length) {
                sets[set]++;
                sets[setsUsed] = from;
                sets[setsUsed + 1] = to;
                setsUsed += 2;
            }
        }

        /** What was emitted from start on comes least times, and up to most times (NONE: any number of times). */
        void repeat(int start, int least, int most) {
            int block = length - start;
            if (start < 0 || block <= 0) {
                return;
            }
            if (most == 0) {
                length = start;
                return;
            }
            if (least == 0) {
                insert(start, SPLIT, most == NONE ? block + 2 : block + 1);
                if (most == NONE) {
                    emit(JUMP, -(block + 1));
                }
                for (int i = 1; i < most; i++) {
                    copy(start, block + 1);
                }
                return;
            }
            for (int i = 1; i < least; i++) {
                copy(start, block);
            }
            if (most == NONE) {
                emit(SPLIT, -block);
            }
            for (int i = least; i < most; i++) {
                emit(SPLIT, block + 1);
                copy(start, block);
            }
        }

        /** Jumps are told by how far they go, so a copy of a whole block works as the block does. */
        private void copy(int start, int block) {
            if (start >= 0 && block >= 0 && start + block <= length && length + block <= MAX_CODE) {
                System.arraycopy(operations, start, operations, length, block);
                System.arraycopy(arguments, start, arguments, length, block);
            }
            length = Math.min(length + block, MANY);
        }

        /** Whether some part of the string is matched. */
        boolean finds(Text text, int v) {
            for (int i = 0; i < length && i < MAX_CODE; i++) {
                rounds[i] = 0;
            }
            int movedCount = 0;
            int last = text.size(v);
            for (int p = 0; p <= last; p++) {
                waitingCount = 0;
                top = 0;
                push(0, p + 1);
                for (int i = 0; i < movedCount; i++) {
                    push(moved[i], p + 1);
                }
                if (follow(p, last)) {
                    return true;
                }
                int c = text.cell(v, p);
                movedCount = 0;
                for (int i = 0; i < waitingCount; i++) {
                    int state = waiting[i];
                    if (accepts(state, c) && movedCount < moved.length) {
                        moved[movedCount] = state + 1;
                        movedCount++;
                    }
                }
            }
            return false;
        }

        private void push(int state, int round) {
            if (state >= 0 && state < MAX_CODE && rounds[state] != round && top < MAX_CODE) {
                rounds[state] = round;
                stack[top] = state;
                top++;
            }
        }

        /** Goes from the states on the stack to all that wait for a character: whether the end is among them. */
        private boolean follow(int place, int last) {
            int round = place + 1;
            for (int i = 0; i < MAX_CODE && top > 0; i++) {
                top--;
                int state = stack[top];
                switch (operations[state]) {
                    case DONE:
                        return true;
                    case JUMP:
                        push(state + arguments[state], round);
                        break;
                    case SPLIT:
                        push(state + 1, round);
                        push(state + arguments[state], round);
                        break;
                    case AT_BEGINNING:
                        push(place == 0 ? state + 1 : NONE, round);
                        break;
                    case AT_END:
                        push(place == last ? state + 1 : NONE, round);
                        break;
                    default:
                        if (waitingCount < waiting.length) {
                            waiting[waitingCount] = state;
                            waitingCount++;
                        }
                        break;
                }
            }
            return false;
        }

        private boolean accepts(int state, int c) {
            if (state < 0 || state >= MAX_CODE) {
                return false;
            }
            int argument = arguments[state];
            switch (operations[state]) {
                case CHARACTER:
                    return argument == c;
                case DOT:
                    return c != 10 && c != 13 && c != 0x2028 && c != 0x2029;
                case CLASS:
                    return inClasses(argument, c);
                default:
                    int flags = argument >= 0 && argument + 1 < sets.length ? sets[argument + 1] : 0;
                    return (inRanges(argument, c) || inClasses(flags, c)) != ((flags & NEGATED) != 0);
            }
        }

        private boolean inRanges(int set, int c) {
            int ranges = set >= 0 && set < sets.length ? sets[set] : 0;
            for (int i = 0; i < ranges; i++) {
                int at = set + 2 + 2 * i;
                if (at + 1 < sets.length && c >= sets[at] && c <= sets[at + 1]) {
                    return true;
                }
            }
            return false;
        }

        private static boolean inClasses(int flags, int c) {
            boolean digit = c >= '0' && c <= '9';
            boolean word = digit || c >= 'a' && c <= 'z' || c >= 'A' && c <= 'Z' || c == '_';
            boolean blank = c >= 9 && c <= 13 || c == 32 || c == 0xA0 || c == 0x1680
                || c >= 0x2000 && c <= 0x200A || c == 0x2028 || c == 0x2029
                || c == 0x202F || c == 0x205F || c == 0x3000 || c == 0xFEFF;
            return (flags & (digit ? CLASS_D : CLASS_NOT_D)) != 0
                || (flags & (word ? CLASS_W : CLASS_NOT_W)) != 0
                || (flags & (blank ? CLASS_S : CLASS_NOT_S)) != 0;
        }
    }

    /**
     * Reads a string as a PATTERN: tokenise, then parse, which makes the Program.
     * A token is a character as it stands, ESCAPED with the character that an escape names,
     * CLASS_TOKEN with the flag of a class, or, below 0, a character that means something.
     */
    private static final class Pattern {
        private static final int ESCAPED = 1 << 21;
        private static final int CLASS_TOKEN = 1 << 22;
        private static final int CHARACTER_BITS = ESCAPED - 1;
        private static final int NO_TOKEN = -1;
        private static final String SPECIAL = "^$.*+?()[]{}|";
        private static final String ESCAPABLE = "^$\\.*+?()[]{}|/";
        private static final String CLASSES = "dDwWsS";
        private static final String HEX = "0123456789abcdefABCDEF";

        private final Program program;
        private final int[] tokens = new int[MAX_CHARACTERS];
        private int characterCount;
        private int tokenCount;
        private int position;
        private int total;
        private int least;
        private int most;
        private int depth;
        private final int[] blockStarts = new int[MAX_GROUPS + 1];
        private final int[] branchStarts = new int[MAX_GROUPS + 1];
        private final int[] jumps = new int[MAX_GROUPS + 1];
        private final int[] sizesBefore = new int[MAX_GROUPS + 1];

        Pattern(Program program) {
            this.program = program;
        }

        /** Makes tokens of a string: false if an escape is none, or a set has no end. */
        boolean tokenise(Text text, int v) {
            characterCount = Math.min(text.size(v), tokens.length);
            // The characters come first into the row of the tokens: a token never takes more room than they do.
            for (int i = 0; i < characterCount; i++) {
                tokens[i] = text.cell(v, i);
            }
            boolean inSet = false;
            tokenCount = 0;
            position = 0;
            for (int i = 0; i < tokens.length && position < characterCount; i++) {
                int c = tokens[position];
                position++;
                int token = c;
                if (c == '\\') {
                    token = escape(inSet);
                    if (token == NO_TOKEN) {
                        return false;
                    }
                } else if (inSet) {
                    inSet = c != ']';
                    token = inSet ? c : -c;
                } else if (isIn(SPECIAL, c)) {
                    inSet = c == '[';
                    token = -c;
                }
                tokens[tokenCount] = token;
                tokenCount++;
            }
            return !inSet;
        }

        private static boolean isIn(String characters, int c) {
            return c >= 0 && c < 128 && characters.indexOf((char) c) >= 0;
        }

        /** The token of an escape, the position being behind its 92; NO_TOKEN if it is none. */
        private int escape(boolean inSet) {
            int c = position < characterCount ? tokens[position] : NONE;
            position++;
            int next = position < characterCount ? tokens[position] : NONE;
            switch (c) {
                case 't':
                    return ESCAPED | 9;
                case 'n':
                    return ESCAPED | 10;
                case 'v':
                    return ESCAPED | 11;
                case 'f':
                    return ESCAPED | 12;
                case 'r':
                    return ESCAPED | 13;
                case '0':
                    return isDigit(next) ? NO_TOKEN : ESCAPED;
                case 'x':
                    return hexToken(2);
                case 'u':
                    position += next == '{' ? 1 : 0;
                    return hexToken(next == '{' ? 0 : 4);
                case 'b':
                    return inSet ? ESCAPED | 8 : NO_TOKEN;
                case '-':
                    return inSet ? ESCAPED | c : NO_TOKEN;
                default:
                    if (isIn(CLASSES, c)) {
                        return CLASS_TOKEN | 1 << CLASSES.indexOf((char) c);
                    }
                    return isIn(ESCAPABLE, c) ? ESCAPED | c : NO_TOKEN;
            }
        }

        /** The token of so many hexadecimal digits; of 0: of one at least and a brace behind them. */
        private int hexToken(int digits) {
            int number = 0;
            for (int i = 0; i < tokens.length; i++) {
                if (digits > 0 && i == digits) {
                    return ESCAPED | number;
                }
                int c = position < characterCount ? tokens[position] : NONE;
                position++;
                if (digits == 0 && i > 0 && c == '}') {
                    return ESCAPED | number;
                }
                int digit = c >= 0 && c < 128 ? HEX.indexOf((char) c) : NONE;
                number = number * 16 + (digit > 15 ? digit - 6 : digit);
                if (digit < 0 || number > 0x10FFFF) {
                    return NO_TOKEN;
                }
            }
            return NO_TOKEN;
        }

        private int peek(int ahead) {
            int i = position + ahead;
            return i >= 0 && i < tokenCount ? tokens[i] : NO_TOKEN;
        }

        /** Makes the Program of the tokens: whether they are a PATTERN. */
        boolean parse() {
            program.clear();
            position = 0;
            total = 0;
            depth = 0;
            beginBlock();
            for (int i = 0; i < MAX_CHARACTERS && position < tokenCount; i++) {
                int token = peek(0);
                position++;
                int start = program.length;
                int before = total;
                boolean repeatable = token != -'^' && token != -'$' && token != -'|' && token != -'(';
                boolean fine = true;
                if (token == -')') {
                    fine = depth > 0;
                    start = blockStarts[depth];
                    before = sizesBefore[depth];
                    endBlock();
                    depth -= fine ? 1 : 0;
                } else if (token == -'(') {
                    fine = openGroup();
                } else if (token == -'|') {
                    nextBranch();
                } else {
                    fine = single(token, token == -'[' ? readSet() : 0);
                }
                if (fine && repeatable && isQuantifier(peek(0))) {
                    fine = readQuantifier();
                    if (fine) {
                        int repeated = (total - before) * (most == NONE ? least + 1 : most);
                        total = Math.min(before + Math.max(repeated, 1) + 1, MANY);
                        program.repeat(start, least, most);
                    }
                }
                // Inside a group {0} may still take all of it away.
                if (!fine || depth == 0 && total > MAX_PATTERN_SIZE) {
                    return false;
                }
            }
            endBlock();
            program.emit(Program.DONE, 0);
            return depth == 0;
        }

        private void beginBlock() {
            blockStarts[depth] = program.length;
            branchStarts[depth] = program.length;
            jumps[depth] = NONE;
            sizesBefore[depth] = total;
        }

        private boolean openGroup() {
            if (depth >= MAX_GROUPS) {
                return false;
            }
            if (peek(0) == -'?') {
                if (peek(1) != ':') {
                    return false;
                }
                position += 2;
            }
            depth++;
            beginBlock();
            return true;
        }

        /** A branch ends with a jump to the end of the block, which is not known yet: until then it tells the jump before it. */
        private void nextBranch() {
            int start = branchStarts[depth];
            program.insert(start, Program.SPLIT, program.length - start + 2);
            program.emit(Program.JUMP, jumps[depth]);
            jumps[depth] = program.length - 1;
            branchStarts[depth] = program.length;
            total++;
        }

        private void endBlock() {
            int jump = jumps[depth];
            for (int i = 0; i < MAX_CODE && jump != NONE; i++) {
                int before = program.argument(jump);
                program.setArgument(jump, program.length - jump);
                jump = before;
            }
        }

        /** One instruction: false if the token can not be one, or its set is none. */
        private boolean single(int token, int set) {
            total++;
            switch (token) {
                case -'^':
                    program.emit(Program.AT_BEGINNING, 0);
                    return true;
                case -'$':
                    program.emit(Program.AT_END, 0);
                    return true;
                case -'.':
                    program.emit(Program.DOT, 0);
                    return true;
                case -'[':
                    program.emit(Program.SET, set);
                    return set != NONE;
                default:
                    if ((token & CLASS_TOKEN) != 0) {
                        program.emit(Program.CLASS, token & ~CLASS_TOKEN);
                    } else {
                        program.emit(Program.CHARACTER, token & CHARACTER_BITS);
                    }
                    return token >= 0;
            }
        }

        /** Where the set stands whose [ was read; NONE if it is none. */
        private int readSet() {
            int set = program.beginSet();
            if (peek(0) == '^') {
                program.addClass(set, Program.NEGATED);
                position++;
            }
            for (int i = 0; i < tokenCount; i++) {
                int from = peek(0);
                position++;
                if (from == -']') {
                    return set;
                }
                int to = from;
                if (peek(0) == '-' && peek(1) != -']') {
                    to = peek(1);
                    position += 2;
                    if ((from & CLASS_TOKEN) != 0 || (to & CLASS_TOKEN) != 0) {
                        return NONE;
                    }
                }
                if (from < 0 || to < 0 || (from & CHARACTER_BITS) > (to & CHARACTER_BITS)) {
                    return NONE;
                }
                if ((from & CLASS_TOKEN) != 0) {
                    program.addClass(set, from & ~CLASS_TOKEN);
                } else {
                    program.addRange(set, from & CHARACTER_BITS, to & CHARACTER_BITS);
                }
            }
            return NONE;
        }

        private static boolean isQuantifier(int token) {
            return token == -'*' || token == -'+' || token == -'?' || token == -'{';
        }

        private boolean readQuantifier() {
            int token = peek(0);
            position++;
            least = token == -'+' ? 1 : 0;
            most = token == -'?' ? 1 : NONE;
            boolean fine = true;
            if (token == -'{') {
                least = readNumber();
                most = least;
                fine = least != NONE;
                if (peek(0) == ',') {
                    position++;
                    most = readNumber();
                }
                fine = fine && peek(0) == -'}' && (most == NONE || least <= most);
                position++;
            }
            if (peek(0) == -'?') {
                position++;
            }
            return fine && least <= MAX_REPEAT && most <= MAX_REPEAT;
        }

        /** One to three digits; NONE if there are none. */
        private int readNumber() {
            int number = NONE;
            for (int i = 0; i < 3; i++) {
                int token = position < tokenCount ? tokens[position] : NO_TOKEN;
                if (token < '0' || token > '9') {
                    return number;
                }
                number = Math.max(number, 0) * 10 + token - '0';
                position++;
            }
            return number;
        }
    }

    /** The names that mean something in a SCHEMA: what their VALUE has to be, the kind they are for, what they look at. */
    private enum Keyword {
        OTHER("", NO_FORM, EVERY, IDLE),
        NOT("not", ONE_SCHEMA, EVERY, IN_PLACE),
        IF("if", ONE_SCHEMA, EVERY, IN_PLACE),
        THEN("then", ONE_SCHEMA, EVERY, IN_PLACE),
        ELSE("else", ONE_SCHEMA, EVERY, IN_PLACE),
        ITEMS("items", ONE_SCHEMA, ARRAY, EACH_CHILD),
        CONTAINS("contains", ONE_SCHEMA, ARRAY, EACH_CHILD),
        ADDITIONAL_PROPERTIES("additionalProperties", ONE_SCHEMA, OBJECT, EACH_CHILD),
        PROPERTY_NAMES("propertyNames", ONE_SCHEMA, OBJECT, EACH_CHILD),
        UNEVALUATED_ITEMS("unevaluatedItems", ONE_SCHEMA, ARRAY, EACH_CHILD),
        UNEVALUATED_PROPERTIES("unevaluatedProperties", ONE_SCHEMA, OBJECT, EACH_CHILD),
        ALL_OF("allOf", SCHEMA_LIST, EVERY, IN_PLACE),
        ANY_OF("anyOf", SCHEMA_LIST, EVERY, IN_PLACE),
        ONE_OF("oneOf", SCHEMA_LIST, EVERY, IN_PLACE),
        PREFIX_ITEMS("prefixItems", SCHEMA_LIST, ARRAY, ONE_CHILD),
        DEFS("$defs", SCHEMA_MAP, EVERY, IDLE),
        PROPERTIES("properties", SCHEMA_MAP, OBJECT, ONE_CHILD),
        PATTERN_PROPERTIES("patternProperties", SCHEMA_MAP, OBJECT, EACH_CHILD),
        DEPENDENT_SCHEMAS("dependentSchemas", SCHEMA_MAP, OBJECT, IN_PLACE),
        MAXIMUM("maximum", ANY_NUMBER, NUMBER, ASSERTS),
        EXCLUSIVE_MAXIMUM("exclusiveMaximum", ANY_NUMBER, NUMBER, ASSERTS),
        MINIMUM("minimum", ANY_NUMBER, NUMBER, ASSERTS),
        EXCLUSIVE_MINIMUM("exclusiveMinimum", ANY_NUMBER, NUMBER, ASSERTS),
        MULTIPLE_OF("multipleOf", ABOVE_ZERO, NUMBER, ASSERTS),
        MAX_LENGTH("maxLength", COUNT, STRING, ASSERTS),
        MIN_LENGTH("minLength", COUNT, STRING, ASSERTS),
        MAX_ITEMS("maxItems", COUNT, ARRAY, ASSERTS),
        MIN_ITEMS("minItems", COUNT, ARRAY, ASSERTS),
        MAX_CONTAINS("maxContains", COUNT, ARRAY, IDLE),
        MIN_CONTAINS("minContains", COUNT, ARRAY, IDLE),
        MAX_PROPERTIES("maxProperties", COUNT, OBJECT, ASSERTS),
        MIN_PROPERTIES("minProperties", COUNT, OBJECT, ASSERTS),
        PATTERN("pattern", A_PATTERN, STRING, ASSERTS),
        REF("$ref", REFERENCE, EVERY, IN_PLACE),
        ANCHOR("$anchor", ANCHOR_NAME, EVERY, IDLE),
        TYPE("type", TYPE_NAMES, EVERY, ASSERTS),
        ENUM("enum", ANY_ARRAY, EVERY, ASSERTS),
        CONST("const", ANYTHING, EVERY, ASSERTS),
        UNIQUE_ITEMS("uniqueItems", FLAG, ARRAY, ASSERTS),
        REQUIRED("required", NAME_LIST, OBJECT, ASSERTS),
        DEPENDENT_REQUIRED("dependentRequired", NAME_MAP, OBJECT, ASSERTS),
        ID("$id", REFUSED, EVERY, IDLE),
        DYNAMIC_REF("$dynamicRef", REFUSED, EVERY, IDLE),
        DYNAMIC_ANCHOR("$dynamicAnchor", REFUSED, EVERY, IDLE),
        VOCABULARY("$vocabulary", REFUSED, EVERY, IDLE);

        private static final Keyword[] ALL = values();

        private final String word;
        private final int form;
        private final int kind;
        private final int reach;

        Keyword(String word, int form, int kind, int reach) {
            this.word = word;
            this.form = form;
            this.kind = kind;
            this.reach = reach;
        }

        /** By its place among them; OTHER if there is none. */
        static Keyword numbered(int i) {
            return i >= 0 && i < ALL.length ? ALL[i] : OTHER;
        }

        /** The place of the one that a name spells; 0 if it spells none. */
        static int placeOf(Text text, int name) {
            for (int i = 1; i < ALL.length; i++) {
                if (text.spells(name, ALL[i].word)) {
                    return i;
                }
            }
            return 0;
        }

        boolean concerns(int kindOfValue) {
            return kind == EVERY || kind == kindOfValue;
        }

        boolean comesLast() {
            return this == UNEVALUATED_ITEMS || this == UNEVALUATED_PROPERTIES;
        }

        /** Whether what its SCHEMAS find is never told. */
        boolean isSilent() {
            return this == NOT || this == IF || this == CONTAINS;
        }

        /** Whether what its SCHEMAS find is told only if it FAILS. */
        boolean tellsFailuresOnly() {
            return this == ANY_OF || this == ONE_OF;
        }
    }

    /** What check() learns of the SCHEMA: which VALUES are SCHEMAS, which belong to KEYWORDS, where $ref leads. */
    private static final class Marks {
        private final Text text;
        private final int[] keywords = new int[MAX_VALUES];
        private final boolean[] schemas = new boolean[MAX_VALUES];
        private final int[] targets = new int[MAX_VALUES];

        Marks(Text text) {
            this.text = text;
        }

        void clear() {
            for (int v = 0; v < MAX_VALUES; v++) {
                keywords[v] = 0;
                schemas[v] = false;
                targets[v] = NONE;
            }
        }

        /** Takes a VALUE for a SCHEMA: whether it is one. */
        boolean markSchema(int v) {
            int kind = text.kind(v);
            boolean fine = kind == OBJECT || kind == TRUE || kind == FALSE;
            if (fine && v >= 0 && v < MAX_VALUES) {
                schemas[v] = true;
            }
            return fine;
        }

        boolean isSchema(int v) {
            return v >= 0 && v < MAX_VALUES && schemas[v];
        }

        Keyword markKeyword(int v) {
            int place = Keyword.placeOf(text, v - 1);
            if (v >= 0 && v < MAX_VALUES) {
                keywords[v] = place;
            }
            return Keyword.numbered(place);
        }

        /** The KEYWORD whose VALUE it is. */
        Keyword keyword(int v) {
            return Keyword.numbered(v >= 0 && v < MAX_VALUES ? keywords[v] : 0);
        }

        void setTarget(int v, int target) {
            if (v >= 0 && v < MAX_VALUES) {
                targets[v] = target;
            }
        }

        /** The VALUE of a KEYWORD of a SCHEMA; NONE if it has none. */
        int find(int schema, Keyword wanted) {
            int c = text.firstChild(schema);
            for (int i = 0; i < text.size(schema); i++) {
                if (keyword(c) == wanted) {
                    return c;
                }
                c = text.nextChild(c);
            }
            return NONE;
        }

        /** How many SCHEMAS the VALUE of a KEYWORD has. */
        int schemaCount(Keyword word, int at) {
            return word.form == SCHEMA_LIST || word.form == SCHEMA_MAP ? text.size(at) : 1;
        }

        int firstSchema(Keyword word, int at) {
            if (word.form == SCHEMA_LIST || word.form == SCHEMA_MAP) {
                return text.firstChild(at);
            }
            if (word.form == REFERENCE) {
                return at >= 0 && at < MAX_VALUES ? targets[at] : NONE;
            }
            return at;
        }
    }

    /** Where a $ref leads. */
    private static final class Links {
        private final Text text;
        private final Marks marks;
        private final int[] characters = new int[MAX_CHARACTERS];
        private int length;
        private int position;

        Links(Text text, Marks marks) {
            this.text = text;
            this.marks = marks;
        }

        /** The SCHEMA that a string leads to; NONE if it leads to none. */
        int resolve(int v) {
            if (!decode(v) || length == 0 || characters[0] != '#') {
                return NONE;
            }
            if (length == 1) {
                return 0;
            }
            int found = characters[1] == '/' ? walk() : anchored();
            return marks.isSchema(found) ? found : NONE;
        }

        /** Makes octets of % and two digits, and characters of the octets: false if they are no UTF-8. */
        private boolean decode(int v) {
            int last = text.size(v);
            length = 0;
            position = 0;
            for (int i = 0; i < last && position < last && length < characters.length; i++) {
                int octet = octetAt(v);
                int c = octet == NONE ? text.cell(v, position) : decodeOctets(v, octet);
                if (c == NONE) {
                    return false;
                }
                position += octet == NONE ? 1 : 3;
                characters[length] = c;
                length++;
            }
            return true;
        }

        /** The octet that % and two digits are here; NONE if they are not here. */
        private int octetAt(int v) {
            int high = hexDigit(text.cell(v, position + 1));
            int low = hexDigit(text.cell(v, position + 2));
            return text.cell(v, position) != '%' || high == NONE || low == NONE ? NONE : high * 16 + low;
        }

        /** The character that begins with an octet; the position goes to its last octet. */
        private int decodeOctets(int v, int lead) {
            int tail = utf8Tail(lead);
            if (tail == NONE) {
                return NONE;
            }
            int c = utf8Head(lead, tail);
            for (int i = 0; i < tail; i++) {
                position += 3;
                int octet = octetAt(v);
                if (!utf8Follows(octet)) {
                    return NONE;
                }
                c = c << 6 | octet & 0x3F;
            }
            return utf8Legal(c, tail) ? c : NONE;
        }

        private int anchored() {
            for (int v = 0; v < text.total(); v++) {
                if (marks.keyword(v) == Keyword.ANCHOR && isNamed(v, 1, length)) {
                    return text.parent(v);
                }
            }
            return NONE;
        }

        private int walk() {
            int at = 0;
            int from = 2;
            for (int i = 2; i <= length; i++) {
                if (i == length || characters[i] == '/') {
                    at = step(at, from, i);
                    from = i + 1;
                }
            }
            return at;
        }

        private int step(int at, int from, int to) {
            if (text.kind(at) == ARRAY) {
                int place = placeNumber(from, to);
                return place == NONE ? NONE : text.element(at, place);
            }
            if (text.kind(at) != OBJECT) {
                return NONE;
            }
            int c = text.firstChild(at);
            for (int i = 0; i < text.size(at); i++) {
                if (isNamed(c - 1, from, to)) {
                    return c;
                }
                c = text.nextChild(c);
            }
            return NONE;
        }

        private int placeNumber(int from, int to) {
            int digits = to - from;
            // No array has as many elements as three digits would tell.
            if (digits < 1 || digits > 2 || digits == 2 && characters[from] == '0') {
                return NONE;
            }
            int number = 0;
            for (int i = from; i < to; i++) {
                if (!isDigit(characters[i])) {
                    return NONE;
                }
                number = number * 10 + characters[i] - '0';
            }
            return number;
        }

        /** Whether a string is what the characters from .. to say, with ~0 and ~1 for ~ and /. */
        private boolean isNamed(int v, int from, int to) {
            int k = 0;
            for (int i = from; i < to; i++) {
                int c = characters[i];
                if (c == '~') {
                    i++;
                    int digit = i < to ? characters[i] : NONE;
                    if (digit != '0' && digit != '1') {
                        return false;
                    }
                    c = digit == '0' ? '~' : '/';
                }
                if (k >= text.size(v) || text.cell(v, k) != c) {
                    return false;
                }
                k++;
            }
            return k == text.size(v);
        }
    }

    /** Looks for the FAULTS of the SCHEMA. */
    private static final class Checker {
        private static final int NOT_CHECKED = -1;
        private static final int OTHER_VALUE = 1;
        private static final int REFUSED_KEYWORD = 2;
        private static final int ANCHOR_TWICE = 3;
        private static final int NO_PATTERN = 4;
        private static final int LOST_REFERENCE = 5;
        private static final int CIRCLE = 6;

        private final Text text;
        private final Marks marks;
        private final Pattern pattern;
        private final Links links;
        private final boolean[] aimedAt = new boolean[MAX_VALUES];
        private final int[] reached = new int[MAX_VALUES];
        private final int[] reachedFrom = new int[MAX_VALUES];
        private int reachedCount;
        private int found;
        private int foundAt;

        Checker(Text text, Marks marks, Pattern pattern) {
            this.text = text;
            this.marks = marks;
            this.pattern = pattern;
            links = new Links(text, marks);
            found = NOT_CHECKED;
            foundAt = NONE;
        }

        void forget() {
            found = NOT_CHECKED;
            foundAt = NONE;
        }

        boolean passed() {
            return found == 0;
        }

        int faultyValue() {
            return foundAt;
        }

        int inspect() {
            found = 0;
            foundAt = NONE;
            marks.clear();
            takeSchema(0);
            // What a SCHEMA has begins behind it: when its turn comes it is known as a SCHEMA.
            for (int v = 0; v < text.total(); v++) {
                if (marks.isSchema(v)) {
                    inspectSchema(v);
                }
            }
            compareAnchors();
            if (found == 0) {
                followReferences();
            }
            if (found == 0) {
                findCircle();
            }
            return found;
        }

        /** Of the least VALUE the least FAULT stays. */
        private void report(int fault, int v) {
            if (found == 0 || v < foundAt || v == foundAt && fault < found) {
                found = fault;
                foundAt = v;
            }
        }

        private void require(boolean fine, int v) {
            if (!fine) {
                report(OTHER_VALUE, v);
            }
        }

        private void takeSchema(int v) {
            require(marks.markSchema(v), v);
        }

        private void inspectSchema(int schema) {
            int c = text.firstChild(schema);
            for (int i = 0; i < text.size(schema); i++) {
                inspectKeyword(marks.markKeyword(c), c);
                c = text.nextChild(c);
            }
        }

        private void inspectKeyword(Keyword word, int v) {
            int kind = text.kind(v);
            switch (word.form) {
                case ONE_SCHEMA:
                    takeSchema(v);
                    break;
                case SCHEMA_LIST:
                    require(kind == ARRAY && text.size(v) > 0, v);
                    takeSchemas(v, kind == ARRAY);
                    break;
                case SCHEMA_MAP:
                    require(kind == OBJECT, v);
                    takeSchemas(v, kind == OBJECT);
                    if (word == Keyword.PATTERN_PROPERTIES && kind == OBJECT) {
                        inspectPatterns(v);
                    }
                    break;
                case ANY_NUMBER:
                    require(kind == NUMBER, v);
                    break;
                case ABOVE_ZERO:
                    require(kind == NUMBER && text.sign(v) > 0, v);
                    break;
                case COUNT:
                    require(text.wholeNumber(v) != NONE, v);
                    break;
                case A_PATTERN:
                    require(kind == STRING, v);
                    if (kind == STRING && (!pattern.tokenise(text, v) || !pattern.parse())) {
                        report(NO_PATTERN, v);
                    }
                    break;
                case REFERENCE:
                    require(kind == STRING, v);
                    break;
                case ANCHOR_NAME:
                    require(kind == STRING && isAnchor(v), v);
                    break;
                case REFUSED:
                    report(REFUSED_KEYWORD, v);
                    break;
                default:
                    inspectPlain(word, v, kind);
                    break;
            }
        }

        private void inspectPlain(Keyword word, int v, int kind) {
            switch (word.form) {
                case TYPE_NAMES:
                    inspectTypes(v, kind);
                    break;
                case ANY_ARRAY:
                    require(kind == ARRAY, v);
                    break;
                case FLAG:
                    require(kind == TRUE || kind == FALSE, v);
                    break;
                case NAME_LIST:
                    inspectNames(v);
                    break;
                case NAME_MAP:
                    require(kind == OBJECT, v);
                    int c = kind == OBJECT ? text.firstChild(v) : NONE;
                    for (int i = 0; i < text.size(v) && c != NONE; i++) {
                        inspectNames(c);
                        c = text.nextChild(c);
                    }
                    break;
                default:
                    break;
            }
        }

        private void takeSchemas(int v, boolean parent) {
            int c = parent ? text.firstChild(v) : NONE;
            for (int i = 0; i < text.size(v) && c != NONE; i++) {
                takeSchema(c);
                c = text.nextChild(c);
            }
        }

        private void inspectPatterns(int v) {
            int c = text.firstChild(v);
            for (int i = 0; i < text.size(v); i++) {
                if (!pattern.tokenise(text, c - 1) || !pattern.parse()) {
                    report(NO_PATTERN, c);
                }
                c = text.nextChild(c);
            }
        }

        private boolean isAnchor(int v) {
            for (int i = 0; i < text.size(v); i++) {
                int c = text.cell(v, i);
                boolean later = i > 0 && (isDigit(c) || c == '-' || c == '.');
                if (!isLetter(c) && !later) {
                    return false;
                }
            }
            return text.size(v) > 0;
        }

        private boolean isType(int v) {
            return text.kind(v) == STRING && (text.spells(v, "null") || text.spells(v, "boolean")
                || text.spells(v, "object") || text.spells(v, "array") || text.spells(v, "number")
                || text.spells(v, "string") || text.spells(v, "integer"));
        }

        private void inspectTypes(int v, int kind) {
            if (kind != ARRAY) {
                require(isType(v), v);
                return;
            }
            require(text.size(v) > 0, v);
            int c = text.firstChild(v);
            for (int i = 0; i < text.size(v); i++) {
                require(isType(c) && isNew(v, c), c);
                c = text.nextChild(c);
            }
        }

        private void inspectNames(int v) {
            boolean list = text.kind(v) == ARRAY;
            require(list, v);
            int c = list ? text.firstChild(v) : NONE;
            for (int i = 0; i < text.size(v) && c != NONE; i++) {
                require(text.kind(c) == STRING && isNew(v, c), c);
                c = text.nextChild(c);
            }
        }

        /** Whether no element before this string is alike. */
        private boolean isNew(int list, int v) {
            int c = text.firstChild(list);
            for (int i = 0; i < text.slot(v); i++) {
                if (text.kind(c) == STRING && Text.sameString(text, c, text, v)) {
                    return false;
                }
                c = text.nextChild(c);
            }
            return true;
        }

        private void compareAnchors() {
            for (int v = 0; v < text.total(); v++) {
                if (isAnchorValue(v) && hasElderAnchor(v)) {
                    report(ANCHOR_TWICE, v);
                }
            }
        }

        private boolean isAnchorValue(int v) {
            return marks.keyword(v) == Keyword.ANCHOR && text.kind(v) == STRING;
        }

        private boolean hasElderAnchor(int v) {
            for (int w = 0; w < v; w++) {
                if (isAnchorValue(w) && Text.sameString(text, w, text, v)) {
                    return true;
                }
            }
            return false;
        }

        private void followReferences() {
            Arrays.fill(reachedFrom, NONE);
            for (int v = 0; v < MAX_VALUES; v++) {
                aimedAt[v] = false;
            }
            for (int v = 0; v < text.total(); v++) {
                if (marks.keyword(v) == Keyword.REF) {
                    int target = links.resolve(v);
                    marks.setTarget(v, target);
                    if (target == NONE) {
                        report(LOST_REFERENCE, v);
                    } else if (target < MAX_VALUES) {
                        aimedAt[target] = true;
                    }
                }
            }
        }

        /** The least SCHEMA of a circle is entered from a later one: only a $ref leads back, so it aims at it. */
        private void findCircle() {
            for (int v = 0; v < text.total() && found == 0; v++) {
                if (aimedAt[v] && leadsBack(v)) {
                    report(CIRCLE, v);
                }
            }
        }

        private boolean leadsBack(int start) {
            reachedCount = 0;
            spread(start, start);
            for (int i = 0; i < reachedCount; i++) {
                if (reached[i] == start) {
                    return true;
                }
                spread(reached[i], start);
            }
            return false;
        }

        /** Adds the SCHEMAS that are evaluated for the same VALUE as this one. */
        private void spread(int schema, int start) {
            int at = text.firstChild(schema);
            for (int i = 0; i < text.size(schema); i++) {
                Keyword word = marks.keyword(at);
                int schemas = word.reach == IN_PLACE ? marks.schemaCount(word, at) : 0;
                int s = marks.firstSchema(word, at);
                for (int k = 0; k < schemas; k++) {
                    if (s >= 0 && s < MAX_VALUES && reachedFrom[s] != start && reachedCount < MAX_VALUES) {
                        reachedFrom[s] = start;
                        reached[reachedCount] = s;
                        reachedCount++;
                    }
                    s = text.nextChild(s);
                }
                at = text.nextChild(at);
            }
        }
    }

    /** The PAIRS that are kept, each once. */
    private static final class Pairs {
        private final int[] values = new int[MAX_PAIRS];
        private final int[] keywords = new int[MAX_PAIRS];
        private int size;

        int size() {
            return size;
        }

        /** Forgets all but the first ones. */
        void cut(int kept) {
            if (kept >= 0 && kept < size) {
                size = kept;
            }
        }

        void add(int v, int keyword) {
            if (size >= MAX_PAIRS) {
                return;
            }
            for (int i = 0; i < size; i++) {
                if (values[i] == v && keywords[i] == keyword) {
                    return;
                }
            }
            values[size] = v;
            keywords[size] = keyword;
            size++;
        }

        int at(int k, boolean keyword) {
            if (k < 0 || k >= size) {
                return NONE;
            }
            return keyword ? keywords[k] : values[k];
        }

        void sort() {
            for (int i = 1; i < size; i++) {
                int v = values[i];
                int keyword = keywords[i];
                int k = i;
                while (k > 0 && (values[k - 1] > v || values[k - 1] == v && keywords[k - 1] > keyword)) {
                    values[k] = values[k - 1];
                    keywords[k] = keywords[k - 1];
                    k--;
                }
                values[k] = v;
                keywords[k] = keyword;
            }
        }
    }

    /** Evaluates the INSTANCE by a SCHEMA without FAULTS. */
    private static final class Judge {
        private final Text text;
        private final Marks marks;
        private final Text instance;
        private final Pattern pattern;
        private final Program program;
        private final LongDivision division;
        private final Pairs kept;
        // For each depth the children of its VALUE that are EVALUATED, a bit each.
        private final long[] evaluated = new long[MAX_DEPTH + 2];
        private int silences;
        private boolean over;
        private int schemas;
        private int deepest;

        Judge(Text text, Marks marks, Text instance, Pattern pattern, Program program) {
            this.text = text;
            this.marks = marks;
            this.instance = instance;
            this.pattern = pattern;
            this.program = program;
            division = new LongDivision();
            kept = new Pairs();
        }

        void begin() {
            kept.cut(0);
            silences = 0;
            over = false;
            schemas = 0;
            deepest = 0;
        }

        void finish() {
            if (over) {
                kept.cut(0);
            }
            kept.sort();
        }

        boolean isOver() {
            return over;
        }

        int evaluatedSchemas() {
            return schemas;
        }

        int deepest() {
            return deepest;
        }

        int pairsKept() {
            return kept.size();
        }

        int pairAt(int k, boolean keyword) {
            return kept.at(k, keyword);
        }

        private void tell(int v, int keyword) {
            if (silences == 0) {
                kept.add(v, keyword);
            }
        }

        private boolean enter(int depth) {
            schemas++;
            if (depth < 1 || depth > MAX_DEPTH || schemas > MAX_EVALUATED) {
                over = true;
                return false;
            }
            deepest = Math.max(deepest, depth);
            evaluated[depth] = 0;
            return true;
        }

        /** Whether v is good by a SCHEMA; what is EVALUATED of it stands in the row at this depth then. */
        boolean evaluate(int schema, int v, int depth) {
            if (!enter(depth)) {
                return false;
            }
            if (text.kind(schema) == FALSE) {
                tell(v, schema);
                return false;
            }
            boolean good = true;
            for (int pass = 0; pass < 2; pass++) {
                int at = text.firstChild(schema);
                for (int i = 0; i < text.size(schema) && !over; i++) {
                    int told = at;
                    Keyword word = marks.keyword(at);
                    at = text.nextChild(at);
                    if (word.comesLast() != (pass == 1) || word == Keyword.THEN || word == Keyword.ELSE) {
                        continue;
                    }
                    if (word == Keyword.IF) {
                        boolean held = apply(word, told, v, depth);
                        told = marks.find(schema, held ? Keyword.THEN : Keyword.ELSE);
                        word = marks.keyword(told);
                    }
                    if (word.reach == IDLE || !word.concerns(instance.kind(v))) {
                        continue;
                    }
                    boolean fine = word.reach == ASSERTS ? asserts(word, told, v) : apply(word, told, v, depth);
                    if (!fine) {
                        tell(v, told);
                        good = false;
                    }
                }
            }
            return good;
        }

        /** Evaluates by all SCHEMAS of a KEYWORD what it looks at: whether it does not FAIL (of if: whether it was good). */
        private boolean apply(Keyword word, int at, int v, int depth) {
            int before = kept.size();
            int goods = 0;
            int bads = 0;
            silences += word.isSilent() ? 1 : 0;
            int count = marks.schemaCount(word, at);
            int schema = marks.firstSchema(word, at);
            for (int i = 0; i < count && !over; i++) {
                long skipped = skipped(word, at, schema, v, depth);
                int target = firstTarget(word, schema, v);
                int targets = word.reach == EACH_CHILD ? instance.size(v) : 1;
                for (int k = 0; k < targets && target != NONE && !over; k++) {
                    if ((skipped >> k & 1) == 0) {
                        boolean good = evaluate(schema, word == Keyword.PROPERTY_NAMES ? target - 1 : target, depth + 1);
                        goods += good ? 1 : 0;
                        bads += good ? 0 : 1;
                        remember(word, good, instance.slot(target), depth);
                    }
                    target = instance.nextChild(target);
                }
                schema = text.nextChild(schema);
            }
            silences -= word.isSilent() ? 1 : 0;
            boolean fine = verdict(word, at, goods, bads);
            if (fine && word.tellsFailuresOnly()) {
                kept.cut(before);
            }
            return fine;
        }

        private int firstTarget(Keyword word, int schema, int v) {
            switch (word) {
                case PROPERTIES:
                    return instance.member(v, text, schema - 1);
                case PREFIX_ITEMS:
                    return instance.element(v, text.slot(schema));
                case DEPENDENT_SCHEMAS:
                    return instance.member(v, text, schema - 1) == NONE ? NONE : v;
                default:
                    return word.reach == EACH_CHILD ? instance.firstChild(v) : v;
            }
        }

        /** Of the children of v those that a KEYWORD for each child does not look at, a bit each. */
        private long skipped(Keyword word, int at, int schema, int v, int depth) {
            switch (word) {
                case ITEMS:
                    int prefix = marks.find(text.parent(at), Keyword.PREFIX_ITEMS);
                    return prefix == NONE ? 0 : (1L << text.size(prefix)) - 1;
                case PATTERN_PROPERTIES:
                    return ~matching(schema - 1, v);
                case ADDITIONAL_PROPERTIES:
                    long known = named(marks.find(text.parent(at), Keyword.PROPERTIES), v);
                    int patterns = marks.find(text.parent(at), Keyword.PATTERN_PROPERTIES);
                    int c = text.firstChild(patterns);
                    for (int i = 0; i < text.size(patterns); i++) {
                        known |= matching(c - 1, v);
                        c = text.nextChild(c);
                    }
                    return known;
                case UNEVALUATED_ITEMS:
                case UNEVALUATED_PROPERTIES:
                    return depth >= 0 && depth < evaluated.length ? evaluated[depth] : 0;
                default:
                    return 0;
            }
        }

        /** The members of v whose names MATCH. */
        private long matching(int patternValue, int v) {
            long bits = 0;
            if (!pattern.tokenise(text, patternValue) || !pattern.parse()) {
                return bits;
            }
            int c = instance.firstChild(v);
            for (int i = 0; i < instance.size(v); i++) {
                if (program.finds(instance, c - 1)) {
                    bits |= 1L << i;
                }
                c = instance.nextChild(c);
            }
            return bits;
        }

        /** The members of v whose names an object of the SCHEMA has. */
        private long named(int object, int v) {
            long bits = 0;
            int c = instance.firstChild(v);
            for (int i = 0; i < instance.size(v); i++) {
                if (text.member(object, instance, c - 1) != NONE) {
                    bits |= 1L << i;
                }
                c = instance.nextChild(c);
            }
            return bits;
        }

        /** Notes what a KEYWORD has EVALUATED by one SCHEMA. */
        private void remember(Keyword word, boolean good, int slot, int depth) {
            if (depth < 0 || depth + 1 >= evaluated.length) {
                return;
            }
            if (word.reach == IN_PLACE) {
                evaluated[depth] |= good && word != Keyword.NOT ? evaluated[depth + 1] : 0;
            } else if (word != Keyword.PROPERTY_NAMES && (good || word != Keyword.CONTAINS)) {
                evaluated[depth] |= 1L << slot;
            }
        }

        private boolean verdict(Keyword word, int at, int goods, int bads) {
            switch (word) {
                case NOT:
                    return goods == 0;
                case ANY_OF:
                    return goods > 0;
                case ONE_OF:
                    return goods == 1;
                case CONTAINS:
                    int least = marks.find(text.parent(at), Keyword.MIN_CONTAINS);
                    int most = marks.find(text.parent(at), Keyword.MAX_CONTAINS);
                    return goods >= (least == NONE ? 1 : text.wholeNumber(least))
                        && (most == NONE || goods <= text.wholeNumber(most));
                default:
                    return bads == 0;
            }
        }

        private boolean asserts(Keyword word, int at, int v) {
            switch (word) {
                case TYPE:
                    return hasType(at, v);
                case ENUM:
                    return isOneOf(at, v);
                case CONST:
                    return Text.same(text, at, instance, v, 0);
                case MULTIPLE_OF:
                    return division.divides(text, at, instance, v);
                case MAXIMUM:
                    return Text.compare(instance, v, text, at) <= 0;
                case EXCLUSIVE_MAXIMUM:
                    return Text.compare(instance, v, text, at) < 0;
                case MINIMUM:
                    return Text.compare(instance, v, text, at) >= 0;
                case EXCLUSIVE_MINIMUM:
                    return Text.compare(instance, v, text, at) > 0;
                case MAX_LENGTH:
                case MAX_ITEMS:
                case MAX_PROPERTIES:
                    return instance.size(v) <= text.wholeNumber(at);
                case MIN_LENGTH:
                case MIN_ITEMS:
                case MIN_PROPERTIES:
                    return instance.size(v) >= text.wholeNumber(at);
                case PATTERN:
                    return pattern.tokenise(text, at) && pattern.parse() && program.finds(instance, v);
                case UNIQUE_ITEMS:
                    return text.kind(at) == FALSE || allDiffer(v);
                case REQUIRED:
                    return hasAll(at, v);
                case DEPENDENT_REQUIRED:
                    return hasDependents(at, v);
                default:
                    return true;
            }
        }

        private boolean hasType(int at, int v) {
            if (text.kind(at) == STRING) {
                return isOfType(at, v);
            }
            int c = text.firstChild(at);
            for (int i = 0; i < text.size(at); i++) {
                if (isOfType(c, v)) {
                    return true;
                }
                c = text.nextChild(c);
            }
            return false;
        }

        private boolean isOfType(int type, int v) {
            switch (instance.kind(v)) {
                case NULL:
                    return text.spells(type, "null");
                case FALSE:
                case TRUE:
                    return text.spells(type, "boolean");
                case NUMBER:
                    return text.spells(type, "number") || instance.exponent(v) >= 0 && text.spells(type, "integer");
                case STRING:
                    return text.spells(type, "string");
                case ARRAY:
                    return text.spells(type, "array");
                default:
                    return text.spells(type, "object");
            }
        }

        private boolean isOneOf(int at, int v) {
            int c = text.firstChild(at);
            for (int i = 0; i < text.size(at); i++) {
                if (Text.same(text, c, instance, v, 0)) {
                    return true;
                }
                c = text.nextChild(c);
            }
            return false;
        }

        private boolean allDiffer(int v) {
            int c = instance.firstChild(v);
            for (int i = 0; i < instance.size(v); i++) {
                int other = instance.nextChild(c);
                for (int k = i + 1; k < instance.size(v); k++) {
                    if (Text.same(instance, c, instance, other, 0)) {
                        return false;
                    }
                    other = instance.nextChild(other);
                }
                c = instance.nextChild(c);
            }
            return true;
        }

        private boolean hasAll(int names, int v) {
            int c = text.firstChild(names);
            for (int i = 0; i < text.size(names); i++) {
                if (instance.member(v, text, c) == NONE) {
                    return false;
                }
                c = text.nextChild(c);
            }
            return true;
        }

        private boolean hasDependents(int at, int v) {
            int c = text.firstChild(at);
            for (int i = 0; i < text.size(at); i++) {
                if (instance.member(v, text, c - 1) != NONE && !hasAll(c, v)) {
                    return false;
                }
                c = text.nextChild(c);
            }
            return true;
        }
    }
}
