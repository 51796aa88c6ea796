/** Boundary cases of PATTERNS (Terms 2) and of matches (promise 12), a method for each sentence that names one. */
public final class EdgePatternTest {
    private static final String NONE = "IllegalArgumentException";

    public static void main(String[] args) {
        emptyParts();
        charactersThatStandAlone();
        quantifiers();
        threeDigits();
        fiftyTimes();
        notAboveM();
        groupsAndTheirEnds();
        setsAndTheirEnds();
        charactersOfSets();
        firstNotAboveTheOther();
        neitherASetThen();
        minusLastOrFirst();
        escapes();
        zeroWithoutADigitBehind();
        hexadecimalDigits();
        upTo10ffff();
        classes();
        anyCharacterBut();
        thirtyInOneAnother();
        sizeOfSingles();
        sizeOfRepeats();
        sizeOneAtLeast();
        sizeOfGroups();
        someGivenPart();
        beginningAndEnd();
        longestStrings();
        whoIsNoString();
        Bench.finish();
    }

    private static String quoted(String text) {
        StringBuilder json = new StringBuilder("\"");
        for (char c : text.toCharArray()) {
            json.append(c == '"' || c == '\\' ? "\\" + c : c < 32 ? String.format("\\u%04x", (int) c) : String.valueOf(c));
        }
        return json.append('"').toString();
    }

    private static String match(String pattern, String text) {
        Bench bench = new Bench();
        bench.instance("[" + quoted(text) + "," + quoted(pattern) + "]");
        return Bench.outcome(() -> bench.judge.matches(1, 2));
    }

    private static String shown(String text) {
        return text.length() > 60 ? text.substring(0, 60) + ".. (" + text.length() + ")" : text;
    }

    private static void one(String... patterns) {
        for (String pattern : patterns) {
            Bench.same(shown(pattern) + " is a pattern", !match(pattern, "").equals(NONE), true);
        }
    }

    private static void none(String... patterns) {
        for (String pattern : patterns) {
            Bench.same(shown(pattern) + " is no pattern", match(pattern, ""), NONE);
        }
    }

    private static void yes(String pattern, String... texts) {
        for (String text : texts) {
            Bench.same(shown(pattern) + " on " + shown(text), match(pattern, text), true);
        }
    }

    private static void no(String pattern, String... texts) {
        for (String text : texts) {
            Bench.same(shown(pattern) + " on " + shown(text), match(pattern, text), false);
        }
    }

    private static String character(int c) {
        return new String(Character.toChars(c));
    }

    private static void emptyParts() {
        one("", "|", "||", "()", "(?:)", "(|)", "a|", "|a", "(a|)", "(|a)", "[]", "[^]");
        yes("", "", "a");
        yes("|", "", "a");
        yes("a|", "", "b");
        yes("^()$", "");
        no("^()$", "a");
        yes("^(|a)$", "", "a");
        no("^(|a)$", "b", "aa");
    }

    private static void charactersThatStandAlone() {
        for (int c = 0; c < 128; c++) {
            if ("^$\\.*+?()[]{}|".indexOf(c) < 0) {
                yes("^" + character(c) + "$", character(c));
            }
        }
        none("\\", "*", "+", "?", "(", ")", "[", "]", "{", "}", "a]", "a}", "a)", "a{", "a(", "a[");
        one("^", "$", ".", "|");
        yes("^\u00e9\ud83d\ude00\u2028$", "\u00e9\ud83d\ude00\u2028");
    }

    private static void quantifiers() {
        String[] all = {"*", "+", "?", "{2}", "{2,}", "{2,3}"};
        for (String q : all) {
            one("a" + q, "a" + q + "?", "." + q, "[a]" + q, "\\d" + q, "(a)" + q, "(?:)" + q, "a" + q + "b");
            none(q, q + "?", "^" + q, "$" + q, "|" + q, "a|" + q, "(" + q + ")", "(?:" + q + ")", "a" + q + "??", "a" + q + "*",
                "a" + q + "+", "a" + q + "{1}");
        }
        no("^a+$", "", "b");
        yes("^a+$", "a", "aa");
        yes("^a*$", "", "a", "aa");
        yes("^a?$", "", "a");
        no("^a?$", "aa");
        no("^a{2,3}$", "", "a", "aaaa");
        yes("^a{2,3}$", "aa", "aaa");
        no("^a{2,}$", "", "a");
        yes("^a{2,}$", "aa", "aaa", "aaaa");
        no("^a{2}$", "", "a", "aaa");
        yes("^a{2}?$", "aa");
    }

    private static void threeDigits() {
        one("a{0}", "a{00}", "a{000}", "a{050}", "a{000,000}", "a{001,}", "a{9,050}");
        none("a{}", "a{0000}", "a{0,0000}", "a{0050}", "a{,}", "a{,5}", "a{1,,2}", "a{1.}", "a{1-2}", "a{ 1}", "a{1 }", "a{1, 2}",
            "a{1", "a{1,", "a{1,2", "a{a}", "a{1a}",
            "a{1,a}", "a{/}", "a{:}", "a{1/}", "a{1:}", "a{\u0661}", "a{+1}", "a{-1}", "a{\\x31}");
    }

    private static void fiftyTimes() {
        one("a{49}", "a{50}", "a{50,}", "a{50,50}", "a{0,50}", "a{49,50}");
        none("a{51}", "a{51,}", "a{51,51}", "a{0,51}", "a{50,51}", "a{99}", "a{100}", "a{999}", "a{0,999}", "a{999,}");
        yes("^a{50}$", Bench.times(50, "a"));
        no("^a{50}$", Bench.times(49, "a"), Bench.times(51, "a"));
        yes("^a{0,50}$", "", Bench.times(49, "a"), Bench.times(50, "a"));
        no("^a{0,50}$", Bench.times(51, "a"));
        no("^a{50,}$", Bench.times(49, "a"));
        yes("^a{50,}$", Bench.times(50, "a"), Bench.times(51, "a"), Bench.times(500, "a"));
    }

    private static void notAboveM() {
        one("a{0,0}", "a{1,1}", "a{1,2}", "a{9,10}");
        none("a{1,0}", "a{2,1}", "a{50,49}", "a{10,9}");
        yes("^a{0,0}$", "");
        no("^a{0,0}$", "a");
        yes("^a{0}b$", "b");
        no("^a{0}b$", "ab");
    }

    private static void groupsAndTheirEnds() {
        one("()", "(a)", "((a))", "(?:a)", "(a)(b)", "(:)", "(?::)");
        none("(", "(a", "((a)", ")", "a)", "(a))", "(?", "(?)", "(?:", "(?a)", "(?=a)", "(?!a)", "(?<a>b)", "(?<=a)", "(??:a)",
            "(?:?)", "(? :a)", "(?i:a)");
    }

    private static void setsAndTheirEnds() {
        one("[]", "[^]", "[a]", "[]a", "[^]a", "[[]", "[[]a", "[^^]", "[\\]]", "[^\\]]");
        none("[", "[^", "[a", "[a\\]", "]", "[]]", "[^]]", "[[]]", "[a]]");
        no("[]", "", "a", "]");
        yes("[^]", "a", "\n");
        no("[^]", "");
        yes("^[^\\]]$", "[", "^");
        no("^[^\\]]$", "]");
        yes("^[a^]$", "^", "a");
        no("^[^a]$", "a");
    }

    private static void charactersOfSets() {
        for (int c = 0; c < 128; c++) {
            if (c != ']' && c != '\\' && c != '^') {
                yes("^[" + character(c) + "]$", character(c));
                no("^[" + character(c) + "]$", character(c == 'x' ? 'y' : 'x'));
            }
        }
        yes("^[x^]$", "^");
        yes("^[\\^]$", "^");
        no("^[\\^]$", "a");
        yes("[\ud83d\ude00]", "\ud83d\ude00");
        no("^[\ud83d\ude00]$", "\ud83d\ude00\ud83d\ude00");
    }

    private static void firstNotAboveTheOther() {
        one("[a-a]", "[a-b]", "[\\x00-\\u{10ffff}]", "[\\t-\\n]", "[\\b-\\t]", "[+--]", "[ -!]");
        none("[b-a]", "[\\n-\\t]", "[\\u{10ffff}-\\x00]", "[a-\\x60]", "[\\x61-A]", "[z-aa-z]");
        yes("^[b-d]$", "b", "c", "d");
        no("^[b-d]$", "a", "e", "-");
        yes("^[b-b]$", "b");
        no("^[b-b]$", "a", "c", "-");
        no("^[^b-d]$", "b", "c", "d");
        yes("^[^b-d]$", "a", "e", "-");
    }

    private static void neitherASetThen() {
        for (char c : "dDwWsS".toCharArray()) {
            none("[\\" + c + "-a]", "[a-\\" + c + "]", "[\\" + c + "-\\" + c + "]", "[\\" + c + "--]");
            one("[\\" + c + "-]", "[-\\" + c + "]", "[\\" + c + "a-b]", "[a-b\\" + c + "]", "[\\" + c + "\\-a]", "[a\\-\\" + c
                + "]", "[^\\" + c + "-]");
        }
    }

    private static void minusLastOrFirst() {
        yes("^[a-]$", "a", "-");
        yes("^[-a]$", "a", "-");
        yes("^[^-a]$", "b");
        no("^[^-a]$", "a", "-");
        no("^[^a-]$", "a", "-");
        yes("^[-]$", "-");
        no("^[^-]$", "-");
        yes("^[--]$", "-");
        yes("^[---]$", "-");
        no("^[---]$", "a");
        yes("^[--/]$", "-", ".", "/");
        no("^[--/]$", ",", "0");
        yes("^[+--]$", "+", ",", "-");
        no("^[+--]$", ".", "*");
        none("[a--]", "[.--]");
        yes("^[a-c-e]$", "b", "-", "e");
        no("^[a-c-e]$", "d");
        yes("^[a\\-c]$", "a", "-", "c");
        no("^[a\\-c]$", "b");
        yes("^[\\--\\/]$", ".");
        no("^[a\\x2dc]$", "b");
    }

    private static void escapes() {
        String plain = "^$\\.*+?()[]{}|/";
        String single = "tnvfr";
        String codes = "\t\n\u000b\f\r";
        String sets = "dDwWsS";
        for (int c = 0; c < 256; c++) {
            String x = character(c);
            if (plain.indexOf(c) >= 0) {
                yes("^\\" + x + "$", x);
                yes("^[\\" + x + "]$", x);
                no("^\\" + x + "$", "x", x + x);
            } else if (single.indexOf(c) >= 0) {
                yes("^\\" + x + "$", codes.substring(single.indexOf(c), single.indexOf(c) + 1));
                yes("^[\\" + x + "]$", codes.substring(single.indexOf(c), single.indexOf(c) + 1));
                no("^\\" + x + "$", x);
            } else if (sets.indexOf(c) < 0 && c != '0') {
                none("\\" + x, "a\\" + x + "b");
                if (c != '-' && c != 'b') {
                    none("[\\" + x + "]", "[a\\" + x + "b]");
                }
            }
        }
        none("\\", "a\\", "[\\", "(\\)", "\\\u2028", "\\\ud83d\ude00");
        yes("^[\\-]$", "-");
        yes("^[\\b]$", "\b");
        no("^[\\b]$", "b", "\\");
        yes("^[\\b-\\n]$", "\b", "\t", "\n");
    }

    private static void zeroWithoutADigitBehind() {
        yes("^\\0$", "\0");
        yes("^[\\0]$", "\0");
        one("\\0", "\\0a", "\\0/", "\\0:", "\\0*", "[\\0]", "[\\0-1]", "\\0\\0", "\\0{1}");
        for (char c = '0'; c <= '9'; c++) {
            none("\\0" + c, "[\\0" + c + "]");
        }
        none("\\1", "\\9", "(a)\\1", "[\\1]");
        one("\\0\u0661");
    }

    private static void hexadecimalDigits() {
        yes("^\\x00$", "\0");
        yes("^\\x4a$", "J");
        yes("^\\x4A$", "J");
        yes("^\\xff$", "\u00ff");
        yes("^\\xFf$", "\u00ff");
        yes("^\\x410$", "A0");
        yes("^\\u0041$", "A");
        yes("^\\uFFFF$", "\uffff");
        yes("^\\uabcd$", "\uabcd");
        yes("^\\u00410$", "A0");
        yes("^[\\x41\\u0042]$", "A", "B");
        none("\\x", "\\x4", "\\u", "\\u0", "\\u00", "\\u004", "[\\x4]", "[\\u004]", "\\x{41}", "\\X41", "\\U0041");
        for (char c : "/:@G`g -".toCharArray()) {
            none("\\x" + c + "1", "\\x1" + c, "\\u" + c + "000", "\\u0" + c + "00", "\\u00" + c + "0", "\\u000" + c, "\\u{" + c
                + "}", "\\u{4" + c + "}");
        }
        one("\\ud800", "\\udfff", "[\\ud800-\\udfff]");
        no("\\ud83d", "\ud83d\ude00");
    }

    private static void upTo10ffff() {
        yes("^\\u{0}$", "\0");
        yes("^\\u{41}$", "A");
        yes("^\\u{00041}$", "A");
        yes("^\\u{10FFFF}$", character(0x10FFFF));
        yes("^\\u{10fffe}$", character(0x10FFFE));
        yes("^\\u{10000}$", character(0x10000));
        yes("^[\\u{10000}-\\u{10FFFF}]$", character(0x10000), character(0x10FFFF));
        no("^[\\u{10000}-\\u{10FFFF}]$", "\uffff");
        one("\\u{D800}", "\\u{" + Bench.times(100, "0") + "1}");
        none("\\u{110000}", "\\u{10FFFF0}", "\\u{ffffff}", "\\u{100000000}", "\\u{10000000041}", "\\u{7fffffffffffffff}", "\\u{}",
            "\\u{", "\\u{41", "\\u{41]", "\\u{ 41}", "\\u{41 }",
            "\\u{-1}", "\\u{+1}", "[\\u{110000}]", "[\\u{41]");
    }

    private static void classes() {
        int[] blanks = {9, 10, 11, 12, 13, 32, 0xA0, 0x1680, 0x2000, 0x2005, 0x200A, 0x2028, 0x2029, 0x202F, 0x205F, 0x3000,
            0xFEFF};
        int[] others = {0, 8, 14, 31, 33, 0x85, 0x9F, 0xA1, 0x167F, 0x1681, 0x180E, 0x1FFF, 0x200B, 0x2027, 0x202A, 0x202E,
            0x2030, 0x205E, 0x2060, 0x2FFF, 0x3001, 0xFEFE,
            0xFF00, 0x10FFFF};
        for (int c : blanks) {
            yes("^\\s$", character(c));
            yes("^[\\s]$", character(c));
            no("\\S", character(c));
            no("[\\S]", character(c));
            no("[^\\s]", character(c));
        }
        for (int c : others) {
            no("\\s", character(c));
            yes("^\\S$", character(c));
            yes("^[\\S]$", character(c));
            yes("^[^\\s]$", character(c));
        }
        for (int c = 0; c < 256; c++) {
            boolean digit = c >= '0' && c <= '9';
            boolean word = digit || c >= 'a' && c <= 'z' || c >= 'A' && c <= 'Z' || c == '_';
            Bench.same("digit " + c, match("^\\d$", character(c)), digit);
            Bench.same("no digit " + c, match("^\\D$", character(c)), !digit);
            Bench.same("word " + c, match("^\\w$", character(c)), word);
            Bench.same("no word " + c, match("^\\W$", character(c)), !word);
            Bench.same("either " + c, match("^[\\w\\W]$", character(c)), true);
            Bench.same("neither " + c, match("^[^\\d\\D]$", character(c)), false);
        }
        no("\\d", "\u0661", "\uff11");
        no("\\w", "\u00e9", "\u017f", "\u212a");
    }

    private static void anyCharacterBut() {
        for (int c : new int[] {10, 13, 0x2028, 0x2029}) {
            no(".", character(c));
            yes("^[.]|[^]$", character(c));
        }
        for (int c : new int[] {0, 9, 11, 12, 14, 0x85, 0x2027, 0x202A, 0xD7FF, 0xE000, 0xFFFF, 0x10000, 0x10FFFF}) {
            yes("^.$", character(c));
        }
        no(".", "");
    }

    private static void thirtyInOneAnother() {
        one(Bench.times(30, "(") + Bench.times(30, ")"), Bench.times(30, "(?:") + Bench.times(30, ")"), Bench.times(60, "()"),
            Bench.times(2, Bench.times(30, "(") + Bench.times(30, ")")), Bench.times(29, "(") + Bench.times(50, "(a)")
            + Bench.times(29, ")"));
        none(Bench.times(31, "(") + Bench.times(31, ")"), Bench.times(31, "(?:") + Bench.times(31, ")"), "()" + Bench.times(31,
            "(") + Bench.times(31, ")"),
            Bench.times(30, "(") + "a()" + Bench.times(30, ")"));
        none(Bench.times(31, "(") + Bench.times(30, ")"), Bench.times(30, "(") + Bench.times(31, ")"), Bench.times(30, "(")
            + Bench.times(29, ")"));
        // in a set, and escaped, it is none
        one(Bench.times(30, "(") + "[(]\\(" + Bench.times(30, ")"));
        yes("^" + Bench.times(30, "(") + "a" + Bench.times(30, ")") + "$", "a");
    }

    private static void size(int size, String pattern) {
        int rest = 400 - size;
        one(pattern + Bench.times(rest, "a"), Bench.times(rest, "a") + pattern);
        none(pattern + Bench.times(rest + 1, "a"), Bench.times(rest + 1, "a") + pattern);
    }

    private static void sizeOfSingles() {
        size(0, "");
        for (String single : new String[] {"a", ".", "^", "$", "|", "\\d", "\\x41", "\\u0041", "\\u{41}", "[]", "[^]",
            "[a-z0-9_]", "\\(", "\u00e9"}) {
            size(1, single);
            size(100, Bench.times(100, single));
            size(400, Bench.times(400, single));
        }
        none(Bench.times(3900, "a"));
    }

    private static void sizeOfRepeats() {
        size(2, "a?");
        size(2, "a*");
        size(3, "a+");
        size(2, "a*?");
        size(2, "a{1}");
        size(2, "a{0,1}");
        size(2, "a{0,}");
        size(3, "a{1,}");
        size(51, "a{50}");
        size(51, "a{0,50}");
        size(51, "a{25,50}");
        size(52, "a{50,}");
        size(51, "a{50}?");
        size(357, Bench.times(7, "[a]{50}"));
    }

    private static void sizeOneAtLeast() {
        size(2, "a{0}");
        size(2, "a{0,0}");
        size(2, "(ab){0}");
        size(2, "()*");
        size(2, "()?");
        size(2, "(){50}");
        size(2, "(?:(())){0}");
        size(101, "(a{0}){50}");
        size(101, "(()?){50}");
    }

    private static void sizeOfGroups() {
        size(0, "()");
        size(0, Bench.times(30, "(") + Bench.times(30, ")"));
        size(1, "(a)");
        size(1, "(?:a)");
        size(1, "(|)");
        size(3, "(a|b)");
        size(2, "(^$)");
        size(4, "(a|b)*");
        size(3 * 50 + 1, "(a|b){50}");
        size(399, "(" + Bench.times(199, "a") + "|" + Bench.times(199, "b") + ")");
        size(6 * 3 + 1, "((ab){2}b){3}");
        size(351, "(a{6}){50}");
        none("(a{7}){50}", "(a{8}){50}", "((a{3}){3}){50}", "((((a{50}){50}){50}){50}){50}");
        one("(" + Bench.times(400, "a") + ")", "(?:" + Bench.times(199, "a") + "|" + Bench.times(200, "b") + ")");
        none("(" + Bench.times(401, "a") + ")", "(?:" + Bench.times(200, "a") + "|" + Bench.times(200, "b") + ")", "("
            + Bench.times(400, "a") + "){1}");
        one("(" + Bench.times(399, "a") + "){1}");
    }

    private static void someGivenPart() {
        yes("b", "b", "ab", "bc", "abc");
        no("b", "", "a", "ac");
        yes("bc", "abcd");
        no("bc", "bdc", "cb");
        yes("a|b", "xb");
        no("a|b", "x");
        yes("b{2}", "abba");
        no("b{2}", "abab");
        yes("^a.*z$", "a" + Bench.times(1000, "m") + "z");
    }

    private static void beginningAndEnd() {
        yes("^", "", "a");
        yes("$", "", "a");
        yes("^$", "");
        no("^$", "a", "\n");
        yes("$^", "");
        no("$^", "a");
        yes("^^a$$", "a");
        no("a^", "a");
        no("$a", "a");
        no("^a$", "a\n", "\na", "aa", "");
        yes("(^a|b$)", "ax", "xb");
        no("(^a|b$)", "xa", "bx");
        yes("(^|,)a(,|$)", "a", "b,a", "a,b", "b,a,b");
        no("(^|,)a(,|$)", "aa", "b,ab");
    }

    private static void longestStrings() {
        yes("^" + Bench.times(398, "a") + "$", Bench.times(398, "a"));
        no("^" + Bench.times(398, "a") + "$", Bench.times(397, "a"), Bench.times(399, "a"));
        yes("a$", Bench.times(3997, "b") + "a");
        no("a$", Bench.times(3998, "b"));
        yes("(x*)*y|b$", Bench.times(3990, "b"));
        no("(b?){50}c", Bench.times(3000, "b"));
        one("[" + Bench.times(3998, "a") + "]", "[" + Bench.times(1999, "\\w") + "]", "(" + Bench.times(3900, "a") + "){0}");
        none("[" + Bench.times(3999, "a"), Bench.times(4000, "a"), Bench.times(4000, "("), Bench.times(4000, "\\"),
            Bench.times(4000, "["));
        yes("[" + Bench.times(3996, "a") + "b]", "b");
    }

    private static void whoIsNoString() {
        Bench bench = new Bench();
        bench.instance("{\"a\":\"b\",\"(\":[null,true,false,1,{},\"\"]}");
        String[] kinds = {"object", "name", "string", "name", "array", "null", "true", "false", "number", "object",
            "empty string"};
        for (int v = 0; v < kinds.length; v++) {
            int w = v;
            boolean string = kinds[v].equals("name") || kinds[v].endsWith("string");
            Bench.same("a " + kinds[v] + " by a pattern", Bench.outcome(() -> bench.judge.matches(w, 10)),
                string ? "true" : NONE);
            Bench.same("a string by a " + kinds[v], Bench.outcome(() -> bench.judge.matches(1, w)),
                !string || v == 3 ? NONE : v == 2 ? "false" : "true");
        }
    }
}
