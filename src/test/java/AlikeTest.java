/** Promise 11: which VALUES of an INSTANCE are alike. */
public final class AlikeTest {
    public static void main(String[] args) {
        alike("1", "1.0", true);
        alike("100", "1e2", true);
        alike("0.00", "-0e5", true);
        alike("1", "-1", false);
        alike("1", "10", false);
        alike("1e999", "1e998", false);
        alike("0.1", "1e-1", true);
        alike("12", "1.2", false);
        alike("\"a\"", "\"\\u0061\"", true);
        alike("\"\ud83d\ude00\"", "\"\\ud83d\\ude00\"", true);
        alike("\"\\b\\f\\n\\r\\t\\/\\\"\\\\\"", "\"\\u0008\\u000C\\u000a\\u000D\\u0009\\u002f\\u0022\\u005c\"", true);
        alike("\"\udbff\udfff\ud800\udc00\"", "\"\\udbff\\udfff\\ud800\\udc00\"", true);
        alike("\"a\"", "\"A\"", false);
        alike("\"\u00e9\"", "\"e\u0301\"", false);
        alike("\"1\"", "1", false);
        alike("null", "null", true);
        alike("true", "false", false);
        alike("false", "0", false);
        alike("[]", "{}", false);
        alike("[]", "[]", true);
        alike("[1,2]", "[1.0,2e0]", true);
        alike("[1,2]", "[2,1]", false);
        alike("[1,2]", "[1,2,3]", false);
        alike("[[1],[]]", "[[],[1]]", false);
        alike("{\"a\":1,\"b\":[2]}", "{\"b\":[2.0],\"a\":1}", true);
        alike("{\"a\":1,\"b\":2}", "{\"a\":2,\"b\":1}", false);
        alike("{\"a\":1}", "{\"b\":1}", false);
        alike("{\"a\":1}", "{\"a\":1,\"b\":1}", false);
        alike("{\"a\":{\"x\":[{}],\"y\":0}}", "{\"a\":{\"y\":-0,\"x\":[{}]}}", true);
        String deep = Bench.times(38, "[") + "1" + Bench.times(38, "]");
        alike(deep, deep.replace("1", "1.0"), true);
        alike(deep, deep.replace("1", "2"), false);
        names();
        Bench.finish();
    }

    private static void alike(String one, String other, boolean due) {
        Bench bench = new Bench();
        bench.instance("[" + one + "," + other + "]");
        int second = second(bench);
        Bench.same(one + " and " + other, bench.judge.alike(1, second), due);
        Bench.same(other + " and " + one, bench.judge.alike(second, 1), due);
        Bench.same(one + " and itself", bench.judge.alike(1, 1), true);
        Bench.same("the whole and a part", bench.judge.alike(0, 1), false);
    }

    /** The VALUE of the second element. */
    private static int second(Bench bench) {
        int v = bench.judge.count(1) - 1;
        while (bench.judge.value(false, v, 3) != 0) {
            v--;
        }
        return v;
    }

    private static void names() {
        Bench bench = new Bench();
        bench.instance("{\"a\":\"a\",\"b\":\"a\"}");
        Bench.same("a name and a string", bench.judge.alike(1, 2), true);
        Bench.same("two strings", bench.judge.alike(2, 4), true);
        Bench.same("two names", bench.judge.alike(1, 3), false);
    }
}
