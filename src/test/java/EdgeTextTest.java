import java.nio.charset.StandardCharsets;

/** Boundary cases of Terms 1, a method for each sentence that names one: on the limit, and just beyond it. */
public final class EdgeTextTest {
    public static void main(String[] args) {
        upTo8192Octets();
        shortestForm();
        noSurrogates();
        upTo10ffff();
        oneValue();
        blanks();
        zeroOrDigitsThatBeginWith1To9();
        digitsBehindThePoint();
        digitsBehindE();
        sixtyDigits();
        threeDigitsBehindE();
        noCharacterBelow32();
        shortEscapes();
        fourHexadecimalDigits();
        pairsOfSurrogates();
        noPairOfSurrogates();
        namesDiffer();
        fortyInOneAnother();
        sixtyInOne();
        thousandValues();
        fourThousandCharacters();
        anEscapeIsReadFirst();
        wordsWithAnotherOctet();
        theEnd();
        numbersAlike();
        stringsAlike();
        arraysAlike();
        objectsAlike();
        Bench.finish();
    }

    private static String shown(String text) {
        return text.length() > 70 ? text.substring(0, 70) + ".. (" + text.length() + ")" : text;
    }

    /** The characters are octets; a ' stands for ". */
    private static void reads(String text, String due) {
        String octets = text.replace('\'', '"');
        Bench.same(shown(text), new Bench().octets(octets), due);
    }

    private static void right(int values, String... texts) {
        for (String text : texts) {
            reads(text, String.valueOf(values));
        }
    }

    private static void wrong(int place, String... texts) {
        for (String text : texts) {
            reads(text, "wrong at " + place);
        }
    }

    private static String utf8(int c) {
        byte[] octets = new String(Character.toChars(c)).getBytes(StandardCharsets.UTF_8);
        return new String(octets, StandardCharsets.ISO_8859_1);
    }

    private static String octets(int... octets) {
        StringBuilder text = new StringBuilder();
        for (int octet : octets) {
            text.append((char) octet);
        }
        return text.toString();
    }

    private static void upTo8192Octets() {
        right(1, Bench.times(8191, " ") + "1", "1" + Bench.times(8191, " "), Bench.times(8188, " ") + "true");
        wrong(8191, "1" + Bench.times(8190, " ") + "2");
        wrong(8192, Bench.times(8191, " ") + "[", Bench.times(8189, " ") + "tru", Bench.times(8192, "\n"));
        right(3, "[" + Bench.times(8187, " ") + "1,2]");
    }

    private static void shortestForm() {
        right(1, "'" + utf8(0x7F) + "'", "'" + utf8(0x80) + "'", "'" + utf8(0x7FF) + "'", "'" + utf8(0x800) + "'",
            "'" + utf8(0xFFFF) + "'", "'" + utf8(0x10000) + "'");
        // 41, 7F and 0 in two octets, 7FF in three, FFFF in four
        wrong(2, "'a" + octets(0xC1, 0x81) + "'", "'a" + octets(0xC1, 0xBF) + "'", "'a" + octets(0xC0, 0x80) + "'");
        wrong(2, "'a" + octets(0xE0, 0x9F, 0xBF) + "'", "'a" + octets(0xE0, 0x80, 0x80) + "'");
        wrong(2, "'a" + octets(0xF0, 0x8F, 0xBF, 0xBF) + "'", "'a" + octets(0xF0, 0x80, 0x80, 0x80) + "'");
        // no octet that begins one, too few behind, too many behind, another one behind
        wrong(2, "'a" + octets(0x80) + "'", "'a" + octets(0xBF) + "'", "'a" + octets(0xFF) + "'", "'a" + octets(0xF8, 0x88, 0x80,
            0x80, 0x80) + "'");
        wrong(2, "'a" + octets(0xC3) + "'", "'a" + octets(0xE2, 0x82) + "'", "'a" + octets(0xF0, 0x9F, 0x98) + "'", "'a"
            + octets(0xC3));
        wrong(2, "'a" + octets(0xC3, 0x7F) + "'", "'a" + octets(0xC3, 0xC0) + "'", "'a" + octets(0xE2, 0x82, 0x2E) + "'",
            "'a" + octets(0xF0, 0x9F, 0xC0, 0x80) + "'", "'a" + octets(0xF0, 0x9F, 0x80, 0xFF) + "'");
        wrong(4, "'a" + octets(0xC3, 0xA9, 0xA9) + "'");
        // outside of strings no character above 126 stands anywhere
        wrong(0, utf8(0xE9), utf8(0xFEFF) + "1");
        wrong(1, "1" + utf8(0xA0), "[" + utf8(0x3000) + "]");
    }

    private static void noSurrogates() {
        right(1, "'" + octets(0xED, 0x9F, 0xBF) + "'", "'" + octets(0xEE, 0x80, 0x80) + "'");
        wrong(1, "'" + octets(0xED, 0xA0, 0x80) + "'", "'" + octets(0xED, 0xBF, 0xBF) + "'",
            "'" + octets(0xED, 0xA0, 0xBD, 0xED, 0xB8, 0x80) + "'");
    }

    private static void upTo10ffff() {
        right(1, "'" + octets(0xF4, 0x8F, 0xBF, 0xBF) + "'");
        wrong(1, "'" + octets(0xF4, 0x90, 0x80, 0x80) + "'", "'" + octets(0xF5, 0x80, 0x80, 0x80) + "'", "'" + octets(0xF7, 0xBF,
            0xBF, 0xBF) + "'");
    }

    private static void oneValue() {
        wrong(0, "");
        wrong(3, "   ");
        wrong(1, "1,", "1]", "1}", "1:", "0\u0000");
        wrong(2, "1 1", "[]]", "{}}", "'''", "[][]");
        wrong(4, "nullnull", "true1");
        wrong(0, "]", "}", ",", ":", "a", "+", ".", "N", "T", "/", "#", "\u0000");
    }

    private static void blanks() {
        for (int c : new int[] {9, 10, 13, 32}) {
            String b = octets(c);
            right(1, b + "1" + b + b, b + "[" + b + "]" + b, b + "{" + b + "}" + b);
            right(6, b + "[" + b + "1" + b + "," + b + "{" + b + "'a'" + b + ":" + b + "1" + b + "}" + b + "," + b + "2" + b + "]"
                + b);
        }
        for (int c : new int[] {0, 8, 11, 12, 14, 31, 33, 127, 160}) {
            String b = octets(c);
            wrong(0, b + "1");
            wrong(1, "1" + b, "[" + b + "]", "{" + b + "}");
            wrong(2, "[1" + b + "]");
            wrong(3, "[1," + b + "2]");
            wrong(4, "{'a'" + b + ":1}");
            wrong(5, "{'a':" + b + "1}");
        }
        // no blank stands inside of a word or a number
        wrong(2, "tr ue", "1. 5", "1e 5");
        wrong(1, "- 1");
    }

    private static void zeroOrDigitsThatBeginWith1To9() {
        right(1, "0", "-0", "1", "9", "-1", "-9", "10", "0.0", "-0.0", "0e0");
        wrong(1, "00", "01", "-", "--1", "-.5", "-e", "-a");
        wrong(2, "-00", "-01");
        wrong(0, "+1", ".5", "e1", "E");
        for (char c : "/:".toCharArray()) {
            wrong(1, "1" + c, "-" + c);
        }
    }

    private static void digitsBehindThePoint() {
        right(1, "1.0", "1.9", "0.0", "1.00");
        wrong(2, "1.", "1.e1", "1..", "1.-1", "1.a");
        wrong(3, "1.0.", "1.5.5", "-1.");
    }

    private static void digitsBehindE() {
        right(1, "1e0", "1E0", "1e+0", "1e-0", "1E+9", "1.5e00");
        wrong(2, "1e", "1E", "1ee1", "1e.5", "1ea");
        wrong(3, "1e+", "1e-", "1e+-1", "1e--1", "1e1.5", "1e1e1", "1e1-");
    }

    private static void sixtyDigits() {
        right(1, Bench.times(60, "9"), "-" + Bench.times(60, "9"), "9." + Bench.times(59, "0"), Bench.times(59, "9") + ".0",
            Bench.times(30, "9") + "." + Bench.times(30, "1") + "e999", "0." + Bench.times(59, "0"));
        wrong(0, Bench.times(61, "9"), "-" + Bench.times(61, "9"), "9." + Bench.times(60, "0"), Bench.times(60, "9") + ".0",
            Bench.times(31, "9") + "." + Bench.times(30, "1") + "e9", "0." + Bench.times(60, "0"));
        // it is looked at behind the number: what is no number any more is WRONG where it is so
        wrong(62, Bench.times(61, "9") + ".");
        wrong(62, Bench.times(61, "9") + "e");
        wrong(63, Bench.times(61, "9") + "e+]");
        wrong(1, "[" + Bench.times(61, "9") + "]", "[" + Bench.times(61, "9") + "!", "[" + Bench.times(61, "9"));
        wrong(3, "[1," + Bench.times(61, "9") + "]");
    }

    private static void threeDigitsBehindE() {
        right(1, "1e999", "1e-999", "1e+999", "1E000", "0e999");
        wrong(0, "1e1000", "1e-1000", "1e+0001", "1E0000", "0e0000", "-1e1000");
        wrong(2, "[ 1e1000]", "[ 1e1000!", "[ 1e1000");
        wrong(0, "1e" + Bench.times(8190, "0"));
    }

    private static void noCharacterBelow32() {
        right(1, "' '", "'!'", "'" + octets(127) + "'");
        for (int c = 0; c < 32; c++) {
            wrong(2, "'a" + octets(c) + "'");
            wrong(2, "{'" + octets(c) + "':1}");
        }
    }

    private static void shortEscapes() {
        Bench bench = new Bench();
        bench.octets("[\"\\\"\\\\\\/\\b\\f\\n\\r\\t\",\"\\u0022\\u005c\\u002f\\u0008\\u000c\\u000a\\u000d\\u0009\"]");
        Bench.same("eight escapes", bench.judge.value(false, 1, 2), 8);
        Bench.same("what they are", bench.judge.alike(1, 2), true);
        for (char c = 0; c < 256; c++) {
            if ("\"\\/bfnrtu".indexOf(c) < 0) {
                wrong(3, "'a\\" + (c == '\'' ? "v" : String.valueOf(c)) + "'");
            }
        }
        // an escaped quote does not end the string
        wrong(3, "'\\'");
        right(1, "'\\''", "'\\\\'");
    }

    private static void fourHexadecimalDigits() {
        right(1, "'\\u0000'", "'\\u09aA'", "'\\ufFFf'", "'\\uABCD'", "'\\uabcd'", "'\\u00410'");
        for (char c : "/:@G`g '\\".toCharArray()) {
            wrong(3, "'\\u" + c + "000'");
            wrong(4, "'\\u0" + c + "00'");
            wrong(5, "'\\u00" + c + "0'");
            wrong(6, "'\\u000" + c + "'");
        }
        wrong(2, "'\\U0041'");
        wrong(3, "'\\u", "'\\u{41}'");
        wrong(6, "'\\u000");
    }

    private static void pairsOfSurrogates() {
        Bench bench = new Bench();
        bench.octets("[\"\\uD800\\uDC00\",\"" + utf8(0x10000) + "\",\"\\udbff\\udfff\",\"" + utf8(0x10FFFF) + "\"]");
        Bench.same("one character", bench.judge.value(false, 1, 2) + " " + bench.judge.value(false, 3, 2), "1 1");
        Bench.same("the least", bench.judge.alike(1, 2), true);
        Bench.same("the greatest", bench.judge.alike(3, 4), true);
        right(1, "'\\uD800\\uDFFF\\uDBFF\\uDC00'", "'\\uD7FF'", "'\\uE000'", "'\\uD7FF\\uE000'");
    }

    private static void noPairOfSurrogates() {
        String[] behind = {"", "'", "a'", "\\", "\\'", "\\n'", "\\q'", "\\u", "\\u'", "\\u00g0'", "\\uDC0", "\\u0041'",
            "\\uD800'", "\\uDBFF\\uDC00'",
            "\\uE000'", "\\udbff'", octets(0xFF) + "'", octets(1), utf8(0x10000) + "'"};
        for (String tail : behind) {
            wrong(2, "'a\\uD800" + tail, "'a\\uDBFF" + tail);
        }
        wrong(2, "'a\\uDC00'", "'a\\uDFFF'", "'a\\uDC00\\uDC00'", "'a\\uDC00\\uD800'", "'a\\uDFFF\\uD800\\uDC00'");
        wrong(14, "'a\\ud83d\\ude00\\ude00'");
        wrong(2, "{'\\uD800':1}");
    }

    private static String members(int n, String last) {
        StringBuilder text = new StringBuilder("{");
        for (int i = 1; i < n; i++) {
            text.append("'").append((char) ('0' + i)).append("':1,");
        }
        return text.append("'").append(last).append("':1}").toString().replace("\\", "%");
    }

    private static void namesDiffer() {
        right(5, "{'a':1,'b':1}", "{'a':1,'A':1}", "{'a':1,'a ':1}", "{'':1,'a':1}", "{'a':1,'aa':1}", "{'a':{},'b':1}");
        wrong(7, "{'a':1,'a':1}", "{'a':1,'a'", "{'a':1,'a'x", "{'a':1,'\\u0061':1}");
        wrong(8, "{'a':1, 'a' :1}", "{'a':[],'a':1}");
        wrong(6, "{'':1,'':1}");
        wrong(11, "{'" + utf8(0x10000) + "':1 ,'\\uD800\\uDC00':1}");
        // what is WRONG in the name itself comes first
        wrong(9, "{'a':1,'a\n':1}", "{'a':1,'a");
        // the first, the last and the one between them, of sixty
        right(121, members(60, "x"));
        wrong(1 + 59 * 6, members(60, "1"), members(60, "2"), members(60, "j"));
        // names in other objects are others
        right(9, "{'a':{'a':1,'b':1},'b':1}");
        right(9, "{'a':{'b':1},'b':{'a':1}}");
        wrong(22, "{'a':1,'b':{'c':[11]},'b':1}");
    }

    private static void fortyInOneAnother() {
        right(40, Bench.times(40, "[") + Bench.times(40, "]"));
        right(41, Bench.times(40, "[") + "1" + Bench.times(40, "]"));
        wrong(40, Bench.times(41, "[") + Bench.times(41, "]"), Bench.times(40, "[") + "{", Bench.times(40, "[") + "[1");
        wrong(42, Bench.times(40, "[") + "1,[");
        right(79, Bench.times(39, "{'':") + "{}" + Bench.times(39, "}"));
        // of a member the [ or { itself begins there
        wrong(40 * 4 + 1, Bench.times(40, "{'':") + " {");
        wrong(40 * 4, Bench.times(40, "{'':") + "[");
        // one beside the other is not one in the other
        right(99, Bench.times(38, "[") + list(60, "[]") + Bench.times(38, "]"));
    }

    private static String list(int n, String element) {
        return "[" + Bench.times(n - 1, element + ",") + element + "]";
    }

    private static void sixtyInOne() {
        right(61, list(60, "1"));
        wrong(121, list(61, "1"), list(61, "1").replace("1]", "x]"), list(61, "1").replace("1]", "]"));
        wrong(123, list(60, "1").replace("]", ",  1]"));
        wrong(121, list(60, "1").replace("]", ","));
        right(121, list(60, "[1]"));
        right(121, members(60, "x"));
        wrong(1 + 60 * 6, members(61, "x"));
        wrong(2 + 60 * 6, members(60, "x").replace("}", ", 'y':1}"));
        // a 61st name that is there already, or is none, is WRONG at the same octet
        wrong(1 + 60 * 6, members(60, "x").replace("}", ",'x':1}"), members(60, "x").replace("}", ",x"));
        wrong(122, "[" + list(61, "1"));
    }

    private static void thousandValues() {
        // 1 + 30 * 33 = 991 VALUES, and nine places are free
        String many = "[" + Bench.times(30, list(32, "1") + ",");
        int at = many.length();
        right(1000, many + "1,1,1,1,1,1,1,1,1]");
        wrong(at + 18, many + "1,1,1,1,1,1,1,1,1,1]", many + "1,1,1,1,1,1,1,1,1,[]]", many + "1,1,1,1,1,1,1,1,1,'']");
        wrong(at + 19, many + "1,1,1,1,1,1,1,1,1, 1]");
        right(1000, many + "1,1,1,1,1,1,[1,1]]", many + "1,1,1,1,1,1,{'a':1}]", many + "[[[[[[[[[]]]]]]]]]]");
        wrong(at + 17, many + "1,1,1,1,1,1,1,[1,1]]");
        // a name is a VALUE: it is WRONG where it begins, and a member's VALUE where that begins
        wrong(at + 17, many + "1,1,1,1,1,1,1,1,{'a':1}]");
        wrong(at + 19, many + "1,1,1,1,1,1,1,{'a':1}]");
        wrong(at + 20, many + "1,1,1,1,1,1,1,{'a': 1}]");
    }

    private static void fourThousandCharacters() {
        right(1, "'" + Bench.times(4000, "a") + "'", "'" + Bench.times(1300, "\\u0041") + Bench.times(300, "a") + "'");
        wrong(4001, "'" + Bench.times(4001, "a") + "'", "'" + Bench.times(4000, "a") + utf8(0xE9) + "'");
        wrong(4000, "'" + Bench.times(3999, "a") + "\n");
        // strings and names together
        right(7, "{'ab':['" + Bench.times(1996, "a") + "','" + Bench.times(2000, "b") + "'],'cd':1}");
        wrong(4013, "{'ab':['" + Bench.times(1996, "a") + "','" + Bench.times(2001, "b") + "'],'cd':1}");
        wrong(4008, "{'a':'" + Bench.times(3999, "a") + "','b':1}");
        // of an escape, and of a character of several octets, the octet with which it begins
        wrong(4001, "'" + Bench.times(4000, "a") + "\\n'", "'" + Bench.times(4000, "a") + "\\u0041'",
            "'" + Bench.times(4000, "a") + "\\uD800\\uDC00'", "'" + Bench.times(4000, "a") + utf8(0x10000) + "'");
        // a pair of surrogates is one, four octets are one
        right(1, "'" + Bench.times(3999, "a") + "\\uD800\\uDC00'", "'" + Bench.times(3999, "a") + utf8(0x10FFFF) + "'");
        wrong(4012, "'" + Bench.times(3999, "a") + "\\uD800\\uDC00a'");
        // strings without characters, and other VALUES, take none
        right(4, "['" + Bench.times(4000, "a") + "','',12345]");
        right(5, "['" + Bench.times(4000, "a") + "',{'':''}]");
    }

    private static void anEscapeIsReadFirst() {
        String full = "'" + Bench.times(4000, "a");
        wrong(4002, full + "\\q'", full + "\\", full + "\\U");
        wrong(4003, full + "\\u'", full + "\\ug");
        wrong(4006, full + "\\u000g");
        wrong(4001, full + "\\uD800'", full + "\\uD800\\q'", full + "\\uDC00'", full + octets(0xFF) + "'", full + octets(0xC3)
            + "'", full + "\n'");
        wrong(4001, full);
    }

    private static void wordsWithAnotherOctet() {
        for (String word : new String[] {"null", "true", "false"}) {
            right(1, word);
            for (int i = 1; i < word.length(); i++) {
                String front = word.substring(0, i);
                wrong(i, front, front + "x", front + word.substring(i).toUpperCase(), front + " " + word.substring(i), front
                    + "]");
                wrong(1 + i, "[" + front + "]");
            }
            wrong(word.length(), word + "x", word + word);
            wrong(0, word.toUpperCase());
        }
    }

    private static void theEnd() {
        String whole = " {'a' : [ -1.5e+3 , true , null ] , 'bc' : {'\\u0041\\n':false} } ";
        for (int n = 0; n < whole.length() - 2; n++) {
            String front = whole.substring(0, n);
            wrong(n, front);
        }
        right(10, whole, whole.trim());
    }

    private static void alike(String one, String other, boolean due) {
        Bench bench = new Bench();
        bench.octets(("[" + one + "," + other + "]").replace('\'', '"'));
        int second = bench.judge.count(1) - 1;
        while (bench.judge.value(false, second, 3) != 0) {
            second--;
        }
        Bench.same(one + " and " + other, bench.judge.alike(1, second), due);
        Bench.same(other + " and " + one, bench.judge.alike(second, 1), due);
    }

    private static void numbersAlike() {
        alike("0", "-0", true);
        alike("0", "0e999", true);
        alike("-0.000e-999", "0", true);
        alike("0", "1e-999", false);
        alike("1e999", "10e998", true);
        alike("1e999", "1e-999", false);
        alike("1e-999", "0.1e-998", true);
        alike("1", "-1", false);
        alike(Bench.times(60, "9"), Bench.times(59, "9") + "8", false);
        alike(Bench.times(60, "9"), Bench.times(60, "9") + "e0", true);
        alike(Bench.times(60, "9"), Bench.times(59, "9"), false);
        alike("1" + Bench.times(59, "0"), "1e59", true);
        alike("1" + Bench.times(59, "0"), "1e58", false);
        alike("1." + Bench.times(58, "0") + "1", "1", false);
        alike("1." + Bench.times(59, "0"), "1", true);
        alike("1" + Bench.times(59, "0") + "e999", "0." + Bench.times(58, "0") + "1e999", false);
    }

    private static void stringsAlike() {
        alike("''", "''", true);
        alike("''", "'\\u0000'", false);
        alike("'a'", "'a\\u0000'", false);
        alike("'\\u0000'", "'\\u0000'", true);
        alike("'ab'", "'ac'", false);
        alike("'ab'", "'bb'", false);
        alike("'0'", "0", false);
        alike("''", "null", false);
        alike("''", "[]", false);
    }

    private static void arraysAlike() {
        alike("[]", "[]", true);
        alike("[]", "[null]", false);
        alike("[1]", "[1,1]", false);
        alike("[1,2]", "[1,3]", false);
        alike("[2,1]", "[3,1]", false);
        alike(list(60, "1"), list(60, "1.0"), true);
        alike(list(59, "1"), list(60, "1"), false);
        alike(list(60, "1"), list(59, "1").replace("]", ",2]"), false);
        String deep = Bench.times(39, "[") + Bench.times(39, "]");
        alike(deep, deep, true);
        alike(deep, Bench.times(38, "[") + Bench.times(38, "]"), false);
        alike(deep, Bench.times(38, "[") + "{}" + Bench.times(38, "]"), false);
    }

    private static void objectsAlike() {
        alike("{}", "{}", true);
        alike("{}", "[]", false);
        alike("{}", "{'':null}", false);
        alike("{'':null}", "{'':null}", true);
        alike("{'a':1,'b':2,'c':3}", "{'c':3,'b':2,'a':1}", true);
        alike("{'a':1,'b':2,'c':3}", "{'c':1,'b':2,'a':3}", false);
        alike("{'a':1,'b':2}", "{'a':1,'c':2}", false);
        String deep = Bench.times(38, "{'a':") + "{'b':1,'c':1}" + Bench.times(38, "}");
        alike(deep, deep.replace("'b':1,'c':1", "'c':1,'b':1"), true);
        alike(deep, deep.replace("'b':1", "'b':2"), false);
        alike(members(60, "x"), members(60, "x"), true);
        alike(members(60, "x"), members(60, "y"), false);
    }
}
