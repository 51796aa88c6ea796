/** Terms 1 and promises 3, 4 and 10: where a TEXT is WRONG, and what its VALUES are. */
public final class TextTest {
    public static void main(String[] args) {
        places();
        words();
        numbers();
        strings();
        octets();
        nesting();
        children();
        manyValues();
        manyCharacters();
        values();
        numberValues();
        Bench.finish();
    }

    private static void reads(String text, String due) {
        Bench.same(text.length() > 60 ? text.substring(0, 60) + ".." : text, new Bench().instance(text), due);
    }

    private static void octets(String text, String due) {
        Bench.same(text, new Bench().octets(text), due);
    }

    private static void places() {
        reads("", "wrong at 0");
        reads(" \t\r\n", "wrong at 4");
        reads(" 1 ", "1");
        reads("1 2", "wrong at 2");
        reads("\u000b1", "wrong at 0");
        reads("[", "wrong at 1");
        reads("[]", "1");
        reads("[ ]", "1");
        reads("[1", "wrong at 2");
        reads("[1,", "wrong at 3");
        reads("[1,]", "wrong at 3");
        reads("[,", "wrong at 1");
        reads("[1 2", "wrong at 3");
        reads("[1}", "wrong at 2");
        reads("]", "wrong at 0");
        reads("{", "wrong at 1");
        reads("{ }", "1");
        reads("{1", "wrong at 1");
        reads("{\"a\"", "wrong at 4");
        reads("{\"a\" 1", "wrong at 5");
        reads("{\"a\":", "wrong at 5");
        reads("{\"a\":}", "wrong at 5");
        reads("{\"a\":1,}", "wrong at 7");
        reads("{\"a\":1]", "wrong at 6");
        reads("{ \"a\" : 1 , \"b\" : [ ] }", "5");
        reads("{\"a\":1,\"a\":2}", "wrong at 7");
        reads("{\"a\":1, \"\\u0061\"", "wrong at 8");
        reads("{\"a\":{\"a\":1},\"b\":{\"a\":1}}", "9");
        reads("{\"a\":1,\"b\":{\"x\":[1,2]},\"c\":3,\"b\":4}", "wrong at 29");
    }

    private static void words() {
        reads("null", "1");
        reads("nul", "wrong at 3");
        reads("nulL", "wrong at 3");
        reads("nuxl", "wrong at 2");
        reads("[tru]", "wrong at 4");
        reads("truee", "wrong at 4");
        reads("falsy", "wrong at 4");
        reads("False", "wrong at 0");
    }

    private static void numbers() {
        reads("0", "1");
        reads("-0", "1");
        reads("-", "wrong at 1");
        reads("-a", "wrong at 1");
        reads("+1", "wrong at 0");
        reads(".5", "wrong at 0");
        reads("01", "wrong at 1");
        reads("-012", "wrong at 2");
        reads("1.", "wrong at 2");
        reads("1.e1", "wrong at 2");
        reads("1e", "wrong at 2");
        reads("1e+", "wrong at 3");
        reads("1E-x", "wrong at 3");
        reads("1.5.2", "wrong at 3");
        reads("1e5e", "wrong at 3");
        reads(Bench.times(60, "1"), "1");
        reads(" -" + Bench.times(61, "1"), "wrong at 1");
        reads("0." + Bench.times(59, "0"), "1");
        reads("0." + Bench.times(60, "0"), "wrong at 0");
        reads("1e000", "1");
        reads("1e-999", "1");
        reads("[1e0000]", "wrong at 1");
        reads("[" + Bench.times(61, "1") + "x", "wrong at 1");
        reads("[" + Bench.times(61, "1") + ".x", "wrong at 63");
        reads("[" + Bench.times(61, "1") + "e]", "wrong at 63");
        reads(Bench.times(8192, "7"), "wrong at 0");
    }

    private static void strings() {
        reads("\"", "wrong at 1");
        reads("\"a", "wrong at 2");
        reads("\"\u001f\"", "wrong at 1");
        reads("\"\u007f\"", "1");
        reads("\"\\\"\\\\\\/\\b\\f\\n\\r\\t\\u00e9\"", "1");
        reads("\"a\\", "wrong at 3");
        reads("\"a\\q\"", "wrong at 3");
        reads("\"\\U0041\"", "wrong at 2");
        reads("\"\\u00", "wrong at 5");
        reads("\"\\u00g0\"", "wrong at 5");
        reads("\"\\uD83D\\uDe00\"", "1");
        reads("\"a\\ud83d\"", "wrong at 2");
        reads("\"a\\ud83d", "wrong at 2");
        reads("\"a\\ud83dx\"", "wrong at 2");
        reads("\"a\\ud83d\\n\"", "wrong at 2");
        reads("\"a\\ud83d\\q\"", "wrong at 2");
        reads("\"a\\ud83d\\u00zz\"", "wrong at 2");
        reads("\"a\\ud83d\\u0041\"", "wrong at 2");
        reads("\"a\\ud83d\\ud83d\\ude00\"", "wrong at 2");
        reads("\"a\\ude00\"", "wrong at 2");
        reads("\"a\\udc00\\udc00\"", "wrong at 2");
        reads("\"a\\udfff\"", "wrong at 2");
        reads("\"a\\udbff\\udbff\"", "wrong at 2");
        reads("\"a\\ud800\\ue000\"", "wrong at 2");
        reads("\"\\ud7ff\\ue000\"", "1");
        reads("\"a\\ud8", "wrong at 6");
    }

    private static void octets() {
        octets("\"\u00c3\u00a9\"", "1");
        octets("\"\u00e2\u0082\u00ac\u00f0\u009f\u0098\u0080\"", "1");
        octets("\"\u00f4\u008f\u00bf\u00bf\"", "1");
        octets("\"\u00f4\u0090\u0080\u0080\"", "wrong at 1");
        octets("\"\u00f5\u0080\u0080\u0080\"", "wrong at 1");
        octets("\"\u00c0\u0080\"", "wrong at 1");
        octets("\"\u00c1\u00bf\"", "wrong at 1");
        octets("\"\u00c1\u0080\u0080\u0080\"", "wrong at 1");
        octets("\"\u00c2\u0080\u00df\u00bf\"", "1");
        octets("\"\u00ef\u00bf\u00bf\"", "1");
        octets("\"\u00e0\u0080\u0080\"", "wrong at 1");
        octets("\"\u00e0\u00a0\u0080\"", "1");
        octets("\"\u00f0\u0080\u0080\u0080\"", "wrong at 1");
        octets("\"\u00f0\u0090\u0080\u0080\"", "1");
        octets("\"a\u00ed\u00a0\u0080\"", "wrong at 2");
        octets("\"\u00ed\u009f\u00bf\u00ee\u0080\u0080\"", "1");
        octets("\"a\u0080\"", "wrong at 2");
        octets("\"a\u00c3\"", "wrong at 2");
        octets("\"a\u00e2\u0082", "wrong at 2");
        octets("\"a\u00ff\"", "wrong at 2");
        octets("\u00ef\u00bb\u00bf1", "wrong at 0");
        octets("[\u00c3\u00a9]", "wrong at 1");
    }

    private static void nesting() {
        reads(Bench.times(40, "[") + Bench.times(40, "]"), "40");
        reads(Bench.times(41, "[") + Bench.times(41, "]"), "wrong at 40");
        reads(Bench.times(40, "{\"a\":") + "1" + Bench.times(40, "}"), "81");
        reads(Bench.times(40, "{\"a\":") + "[]" + Bench.times(40, "}"), "wrong at 200");
        reads(Bench.times(20, "[{\"\":") + "{", "wrong at 100");
        reads("[" + Bench.times(39, "[") + Bench.times(39, "]") + "," + Bench.times(39, "[") + Bench.times(40, "]"), "79");
    }

    private static String members(int n) {
        StringBuilder text = new StringBuilder("{");
        for (int i = 0; i < n; i++) {
            text.append(i == 0 ? "" : ",").append("\"").append((char) ('A' + i)).append("\":0");
        }
        return text.append("}").toString().replace("\\", "%");
    }

    private static void children() {
        reads("[" + Bench.times(59, "1,") + "1]", "61");
        reads("[" + Bench.times(60, "1,") + "1]", "wrong at 121");
        reads("[" + Bench.times(60, "1,") + " 1]", "wrong at 122");
        reads("[" + Bench.times(60, "1,") + " ]", "wrong at 122");
        reads(members(60), "121");
        reads(members(61), "wrong at 361");
        reads(members(60).replace("}", "") + ", \"a", "wrong at 362");
    }

    private static void manyValues() {
        String thirty = "[" + Bench.times(29, "1,") + "1]";
        String many = "[" + Bench.times(32, thirty + ",");
        // 1 + 32 * 31 = 993 VALUES
        reads(many + "1,1,1,1,1,1,1]", "1000");
        reads(many + "1,1,1,1,1,1,1,1]", "wrong at " + (many.length() + 14));
        reads(many + "1,1,1,1,1,1, [", "wrong at " + (many.length() + 14));
        reads(many + "1,1,1,1,1,[1,1]", "wrong at " + (many.length() + 13));
        reads(many + "1,1,1,1,{\"a\":1}]", "1000");
        reads(many + "1,1,1,1,1,{\"a\":1}]", "wrong at " + (many.length() + 15));
        reads(many + "1,1,1,1,1,1,{\"a\":1}]", "wrong at " + (many.length() + 13));
    }

    private static void manyCharacters() {
        reads("\"" + Bench.times(4000, "a") + "\"", "1");
        reads("\"" + Bench.times(4001, "a") + "\"", "wrong at 4001");
        reads("{\"ab\":\"" + Bench.times(3998, "a") + "\"}", "3");
        reads("{\"ab\":\"" + Bench.times(3999, "a") + "\"}", "wrong at 4005");
        reads("[\"" + Bench.times(4000, "a") + "\",\"\"]", "3");
        reads("[\"" + Bench.times(4000, "a") + "\",{\"x\":1}]", "wrong at 4006");
        reads("\"" + Bench.times(4000, "a") + "\\n\"", "wrong at 4001");
        reads("\"" + Bench.times(4000, "a") + "\\q\"", "wrong at 4002");
        reads("\"" + Bench.times(4000, "a") + "\\u00x", "wrong at 4005");
        reads("\"" + Bench.times(4000, "a") + "\\ud83d\\ude00\"", "wrong at 4001");
        reads("\"" + Bench.times(3999, "a") + "\\ud83d\\ude00\"", "1");
        reads("\"" + Bench.times(2000, "\u00e9") + Bench.times(2000, "a") + "\"", "1");
        reads("\"" + Bench.times(4000, "\u00e9") + "\u00e9\"", "wrong at 8001");
    }

    private static void values() {
        Bench bench = new Bench();
        bench.instance(" [null, false,true , {\"a\":\"\u00e9\ud83d\ude00\\n\" , \"\":[]}]");
        Bench.same("array", bench.value(false, 0), "5 1 4 -1 0");
        Bench.same("null", bench.value(false, 1), "0 2 0 0 0");
        Bench.same("false", bench.value(false, 2), "1 8 0 0 0");
        Bench.same("true", bench.value(false, 3), "2 14 0 0 0");
        Bench.same("object", bench.value(false, 4), "6 21 2 0 0");
        Bench.same("name", bench.value(false, 5), "4 22 1 4 0");
        Bench.same("string", bench.value(false, 6), "4 26 3 4 0");
        Bench.same("empty name", bench.value(false, 7), "4 39 0 4 0");
        Bench.same("empty array", bench.value(false, 8), "5 42 0 4 0");
        bench.schema("{\"x\":[12]}");
        Bench.same("of the schema", bench.value(true, 3), "3 6 2 2 0");
        Bench.same("the instance stays", bench.value(false, 8), "5 42 0 4 0");
    }

    private static void numberValues() {
        String[][] due = {
            {"0", "0 0"}, {"-0", "0 0"}, {"0.000", "0 0"}, {"0e12", "0 0"}, {"0.0e-7", "0 0"},
            {"7", "1 0"}, {"-7", "1 0"}, {"10", "1 1"}, {"1200", "2 2"}, {"1.0", "1 0"}, {"1.50e1", "2 0"},
            {"0.001", "1 -3"}, {"0.0120", "2 -3"}, {"10.01", "4 -2"}, {"1e999", "1 999"}, {"1E+2", "1 2"},
            {"1.5e-999", "2 -1000"}, {"1000e999", "1 1002"}, {"123e-2", "3 -2"}, {"100e-2", "1 0"},
            {Bench.times(60, "9"), "60 0"}, {"1" + Bench.times(59, "0"), "1 59"}};
        for (String[] pair : due) {
            Bench bench = new Bench();
            bench.instance(pair[0]);
            Bench.same(pair[0], bench.judge.value(false, 0, 2) + " " + bench.judge.value(false, 0, 4), pair[1]);
        }
    }
}
