import java.util.regex.Pattern;

/** Promise 12 and the PATTERNS of Terms 2: what is one, its SIZE, and what it MATCHES. */
public final class PatternTest {
    private static long state = 777;

    public static void main(String[] args) {
        whatIsOne();
        whatIsNone();
        repeats();
        sizes();
        groups();
        matching();
        sets();
        escapes();
        besideJava();
        inSchemas();
        Bench.finish();
    }

    private static String quoted(String text) {
        StringBuilder json = new StringBuilder("\"");
        for (char c : text.toCharArray()) {
            json.append(c == '"' || c == '\\' ? "\\" + c : c < 32 ? String.format("\\u%04x", (int) c) : String.valueOf(c));
        }
        return json.append('"').toString();
    }

    private static String match(String pattern, String text) {
        Bench bench = new Bench();
        bench.instance("[" + quoted(text) + "," + quoted(pattern) + "]");
        return Bench.outcome(() -> bench.judge.matches(1, 2));
    }

    private static String name(String pattern) {
        return pattern.length() > 50 ? pattern.substring(0, 50) + ".. (" + pattern.length() + ")" : pattern;
    }

    private static void one(String pattern) {
        Bench.same(name(pattern) + " is a pattern", match(pattern, "").equals("IllegalArgumentException"), false);
    }

    private static void none(String pattern) {
        Bench.same(name(pattern) + " is no pattern", match(pattern, ""), "IllegalArgumentException");
    }

    private static void matches(String pattern, String text, boolean due) {
        Bench.same(name(pattern) + " on " + name(text), match(pattern, text), due);
    }

    private static void whatIsOne() {
        String[] ones = {"", "|", "a|", "||", "^", "$", "^$", "$^", "()", "(?:)", "(|)", "a", "-", ",", ":", "/", "a?", "a??",
            "a*?", "a+?", "a{1}?", "(a)*", "[]", "[^]", "[^^]", "[[]", "[a-]", "[-a]", "[--a]", "[-]", "[--]", "[---]",
            "[a-b-c]", "[\\d-]", "[-\\d]", "[\\w\\s]", "[\\-a]", "[\\b]", "[$.*+?(){}|]", "[a\\]]", "[\\--a]", "[+--]",
            "\u00e9", "\ud83d\ude00", "\n", "=!<>", "[^-]", "[\\x41-\\x5a]", "\\u{0}", "\\u{00000010FFFF}", "\\0", "\\0a",
            "\\ud800", "[a-a]", "(?:a|b)+"};
        for (String pattern : ones) {
            one(pattern);
        }
    }

    private static void whatIsNone() {
        String[] nones = {"(", ")", "a)", "(a", "(?a)", "(?=a)", "(?!a)", "(?<n>a)", "(?", "(?\\x3aa)", "[", "[a", "[^", "[a-",
            "[\\", "]", "a]", "{", "}", "a}", "a{", "{1}", "*", "+", "?", "a**", "a+*", "a???", "a{1}{2}", "^*", "$?", "^{1}",
            "|*", "(*)", "(|*)", "\\", "\\a", "\\1", "\\c", "\\p", "\\b", "\\B", "\\-", "\\k", "\\e", "\\_", "\\ ", "\\00",
            "\\07", "\\x", "\\x4", "\\x4g", "\\u", "\\u004", "\\u004g", "\\u{}", "\\u{110000}", "\\u{g}", "\\u{41",
            "\\u{FFFFFFFFFFFF}", "[b-a]", "[a--]", "[\\d-a]", "[a-\\d]", "[\\w-\\d]", "[\\B]", "[\\a]", "[\\c]", "[\\1]",
            "[a-\\]", "\\\u00e9", "\\'", "\\\""};
        for (String pattern : nones) {
            none(pattern);
        }
    }

    private static void repeats() {
        String[] ones = {"a{0}", "a{0,0}", "a{50}", "a{050}", "a{0,50}", "a{50,}", "a{1,1}", "a{01,002}", "a{0,}?"};
        String[] nones = {"a{}", "a{,}", "a{,1}", "a{a}", "a{1", "a{1,", "a{1,2", "a{51}", "a{0,51}", "a{51,}", "a{2,1}",
            "a{0001}", "a{1,0002}", "a{1;2}", "a{1,2,3}", "a{ 1}", "a{1, 2}", "a{-1}", "a{\\x31}", "a{1}}"};
        for (String pattern : ones) {
            one(pattern);
        }
        for (String pattern : nones) {
            none(pattern);
        }
    }

    private static void sizes() {
        one(Bench.times(400, "a"));
        none(Bench.times(401, "a"));
        one(Bench.times(200, "^$"));
        none(Bench.times(200, "^$") + ".");
        one(Bench.times(400, "|"));
        none(Bench.times(401, "|"));
        one(Bench.times(400, "[a-z]"));
        none(Bench.times(400, "[a-z]") + "\\d");
        one(Bench.times(200, "a*"));
        none(Bench.times(200, "a*") + "a");
        one(Bench.times(200, "a?"));
        none(Bench.times(200, "a?") + "a");
        one(Bench.times(133, "a+") + "a");
        none(Bench.times(133, "a+") + "aa");
        // a{50}: 50 times and 1
        one(Bench.times(7, "a{50}") + Bench.times(43, "a"));
        none(Bench.times(7, "a{50}") + Bench.times(44, "a"));
        one(Bench.times(7, "a{0,50}") + Bench.times(43, "a"));
        none(Bench.times(7, "a{0,50}") + Bench.times(44, "a"));
        one(Bench.times(7, "a{20,50}") + Bench.times(43, "a"));
        none(Bench.times(7, "a{20,50}") + Bench.times(44, "a"));
        // a{49,}: 49 times, once more, and 1
        one(Bench.times(7, "a{49,}") + Bench.times(43, "a"));
        none(Bench.times(7, "a{49,}") + Bench.times(44, "a"));
        one("(?:a{6}){50}" + Bench.times(49, "a"));
        none("(?:a{7}){50}");
        one("(a|b){50}".replace("(a|b)", "(a|bcdef)") + Bench.times(49, "a"));
        none("(a|bcdefg){50}");
        one(Bench.times(300, "a") + "(a){50}" + Bench.times(49, "a"));
        none(Bench.times(300, "a") + "(a){50}" + Bench.times(50, "a"));
        // No times, and a group of nothing, are 1 at least, and 1
        one(Bench.times(200, "a{0}"));
        none(Bench.times(200, "a{0}") + "a");
        one(Bench.times(200, "(abc){0,0}"));
        none(Bench.times(200, "(abc){0,0}") + "a");
        one(Bench.times(200, "()*"));
        none(Bench.times(200, "()*") + "a");
        one(Bench.times(199, "(){50}") + "aa");
        none(Bench.times(199, "(){50}") + "aaa");
        // The most instructions that a SIZE of 400 can take.
        matches("(((|){0,7}){0,7}){0,7}", "", true);
        matches("((a|){0,50}){0,2}(|){0,40}(|){0,40}b$", Bench.times(300, "a") + "b", true);
        one("(" + Bench.times(3000, "a") + "){0}");
        one("((" + Bench.times(900, "a|") + "b+)" + Bench.times(9, "(c{50}){50}") + "|x){0}" + Bench.times(398, "a"));
        none("((" + Bench.times(900, "a|") + "b+)" + Bench.times(9, "(c{50}){50}") + "|x){0}" + Bench.times(399, "a"));
        none("(" + Bench.times(3000, "a") + "){0,1}");
        matches("^a|b(" + Bench.times(900, "a|") + "(c{50}){50}|x){0}c$", "xbc", true);
        matches("^a|b(" + Bench.times(900, "a|") + "(c{50}){50}|x){0}c$", "xbac", false);
        matches("^(a|b((" + Bench.times(900, "a|") + "){0}|d|e(c{50}){0,2})f){2}$", "abdf", true);
        matches("^(a|b((" + Bench.times(900, "a|") + "){0}|d|e(c{50}){0,2})f){2}$", "be" + Bench.times(50, "c") + "fa", true);
        one(Bench.times(600, "()"));
        none(Bench.times(5, "(") + "a" + Bench.times(5, "){50}"));
    }

    private static void groups() {
        one(Bench.times(30, "(") + Bench.times(30, ")"));
        none(Bench.times(31, "(") + Bench.times(31, ")"));
        one(Bench.times(30, "(?:") + "a" + Bench.times(30, ")"));
        one(Bench.times(20, "()") + Bench.times(30, "(") + Bench.times(30, ")"));
        matches(Bench.times(30, "(a|") + "b" + Bench.times(30, ")") + "$", "xb", true);
        matches("^" + Bench.times(30, "(") + "a" + Bench.times(30, ")*") + "b$", "aaab", true);
    }

    private static void matching() {
        matches("", "", true);
        matches("", "abc", true);
        matches("b", "abc", true);
        matches("d", "abc", false);
        matches("^b", "abc", false);
        matches("^a", "abc", true);
        matches("c$", "abc", true);
        matches("b$", "abc", false);
        matches("^b", "a\nb", false);
        matches("a$", "a\n", false);
        matches("^$", "", true);
        matches("^$", "a", false);
        matches("$^", "", true);
        matches("a^b", "ab", false);
        matches("(^|x)a", "ba", false);
        matches("(^|x)a", "bxa", true);
        matches("^a|b$", "xb", true);
        matches("^a|b$", "ax", true);
        matches("^a|b$", "bx", false);
        matches("^(ab|cd|ef|)$", "ab", true);
        matches("^(ab|cd|ef|)$", "cd", true);
        matches("^(ab|cd|ef|)$", "ef", true);
        matches("^(ab|cd|ef|)$", "", true);
        matches("^(ab|cd|ef|)$", "ad", false);
        matches("ab|cd|ef", "xcdx", true);
        matches("ab|cd|ef", "xabx", true);
        matches("^((a|b)|(c|d)|e)+f$", "abcdef", true);
        matches("^(a|b)$", "ab", false);
        matches("^(a|)$", "", true);
        matches("^a*$", "", true);
        matches("^a+$", "", false);
        matches("^a+$", "aaa", true);
        matches("^a?$", "aa", false);
        matches("^a{2}$", "a", false);
        matches("^a{2}$", "aa", true);
        matches("^a{2}$", "aaa", false);
        matches("^a{2,3}$", "aaaa", false);
        matches("^a{2,3}$", "aaa", true);
        matches("^a{2,}$", "a", false);
        matches("^a{2,}$", "aaaaa", true);
        matches("^a{0}$", "", true);
        matches("^a{0}$", "a", false);
        matches("^(ab){0,2}$", "ababab", false);
        matches("^(ab|c){2,3}$", "abcab", true);
        matches("^(a*)*$", "aaaa", true);
        matches("^(a*)+b$", "aaab", true);
        matches("^(a|b)*?c", "abbac", true);
        matches("^(?:a{2}|b){3}$", "aabaa", true);
        matches("^((a{2}){2}){2}$", Bench.times(8, "a"), true);
        matches("^((a{2}){2}){2}$", Bench.times(7, "a"), false);
        matches("^(a?){50}$", Bench.times(50, "a"), true);
        matches("^(a?){50}$", Bench.times(51, "a"), false);
        matches("(a*)*b", Bench.times(2000, "a"), false);
        matches("(x+x+)+y", Bench.times(2000, "x"), false);
        matches("^.$", "\ud83d\ude00", true);
        matches("^.{2}$", "\ud83d\ude00", false);
        matches(".", "\n\r\u2028\u2029", false);
        matches(".", "\n\u0085", true);
    }

    private static void sets() {
        matches("[]", "a", false);
        matches("^[^]$", "\n", true);
        matches("^[^]$", "", false);
        matches("^[a-c]$", "b", true);
        matches("^[a-c]$", "-", false);
        matches("^[^a-c]$", "b", false);
        matches("^[^a-c]$", "\n", true);
        matches("^[a-]$", "-", true);
        matches("^[-a]$", "-", true);
        matches("^[a-b-d]$", "c", false);
        matches("^[a-b-d]$", "-", true);
        matches("^[--a]$", "A", true);
        matches("^[--]$", "-", true);
        matches("^[+--]$", ",", true);
        matches("^[\\d-]$", "-", true);
        matches("^[\\d\\s]$", "5", true);
        matches("^[\\D]$", "5", false);
        matches("^[^\\D]$", "5", true);
        matches("^[\\d\\D]$", "x", true);
        matches("^[\\b]$", "\b", true);
        matches("^[\\-]$", "-", true);
        matches("^[a^]$", "^", true);
        matches("^[\\^]$", "^", true);
        matches("^[^^]$", "^", false);
        matches("^[^a]$", "^", true);
        matches("^[[]$", "[", true);
        matches("^[\\]]$", "]", true);
        matches("^[.]$", "a", false);
        matches("^[\u00e0-\u00ff]$", "\u00e9", true);
        matches("^[\\u{1f600}-\\u{1f64f}]$", "\ud83d\ude00", true);
        StringBuilder wide = new StringBuilder("[");
        for (int i = 0; i < 1900; i++) {
            wide.append((char) (0x4000 + 2 * i));
        }
        matches(wide + "]", String.valueOf((char) (0x4000 + 2 * 1899)), true);
        matches(wide + "]", String.valueOf((char) (0x4000 + 2 * 1899 + 1)), false);
        matches("^[" + Bench.times(1000, "\\w") + "]$", "_", true);
        matches("^[" + Bench.times(1000, "\\w") + "]$", "-", false);
    }

    private static void escapes() {
        matches("^\\t\\n\\v\\f\\r\\0$", "\t\n\u000b\f\r\0", true);
        matches("^\\^\\$\\\\\\.\\*\\+\\?\\(\\)\\[\\]\\{\\}\\|\\/$", "^$\\.*+?()[]{}|/", true);
        matches("^\\x41\\u00e9\\u{1F600}$", "A\u00e9\ud83d\ude00", true);
        matches("\\ud83d\\ude00", "\ud83d\ude00", false);
        matches("^\\d\\D\\w\\W\\s\\S$", "1aA- x", true);
        matches("^\\d{2}$", "09", true);
        matches("^\\w{7}$", "azAZ_09", true);
        for (char c : "/:@[^`{".toCharArray()) {
            matches("[\\d\\w]", String.valueOf(c), false);
            matches("^\\W$", String.valueOf(c), true);
        }
        matches("\\d", "\u0663", false);
        matches("\\w", "\u00e9", false);
        matches("\\w", "_", true);
        int[] blanks = {9, 10, 11, 12, 13, 32, 0xA0, 0x1680, 0x2000, 0x200A, 0x2028, 0x2029, 0x202F, 0x205F, 0x3000, 0xFEFF};
        for (int c : blanks) {
            matches("^\\s$", String.valueOf((char) c), true);
            matches("\\S", String.valueOf((char) c), false);
        }
        int[] others = {8, 14, 31, 33, 0x85, 0x9F, 0xA1, 0x180E, 0x1FFF, 0x200B, 0x2027, 0x202A, 0x2060, 0x3001, 0xFEFE};
        for (int c : others) {
            matches("\\s", String.valueOf((char) c), false);
            matches("^\\S$", String.valueOf((char) c), true);
        }
    }

    private static int next(int bound) {
        state = state * 6364136223846793005L + 1442695040888963407L;
        return (int) Math.floorMod(state >>> 33, (long) bound);
    }

    private static String part(int depth) {
        String[] atoms = {"a", "b", "c", ".", "[ab]", "[^a]", "^", "$", "", "(?:)"};
        String[] counts = {"*", "+", "?", "{2}", "{0,2}", "{1,}", "{0}", "{2,3}", "*?", "{1,3}?"};
        int kind = depth > 3 ? 0 : next(5);
        switch (kind) {
            case 0:
                return atoms[next(atoms.length)];
            case 1:
            case 2:
                return part(depth + 1) + part(depth + 1);
            case 3:
                return "(" + part(depth + 1) + "|" + part(depth + 1) + ")";
            default:
                return "(?:" + part(depth + 1) + ")" + counts[next(counts.length)];
        }
    }

    private static void besideJava() {
        for (int i = 0; i < 1500; i++) {
            String pattern = "^(?:" + part(0) + ")$";
            StringBuilder text = new StringBuilder();
            for (int k = next(6); k > 0; k--) {
                text.append((char) ('a' + next(3)));
            }
            String got = match(pattern, text.toString());
            if (!got.equals("IllegalArgumentException")) {
                Bench.same(pattern + " on " + text, got, Pattern.compile(pattern).matcher(text).find());
            }
        }
    }

    private static void inSchemas() {
        Bench.judges("{\"pattern\":\"^x[0-9]{2}$\"}", "\"x12\"", "good");
        Bench.judges("{\"pattern\":\"^x[0-9]{2}$\"}", "\"x1\"", "bad 0:2");
        Bench.judges("{\"pattern\":\"x\"}", "5", "good");
    }
}
