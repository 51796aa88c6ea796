import java.nio.charset.StandardCharsets;

/**
 * Promises 1 to 14 and rules 6 and 7 of LANGUAGE.md: wild arguments in wild states. What each call must throw is told
 * by what the object answered before, and every exception comes from a throw statement of the face.
 */
public final class WildTest {
    private static final String INDEX = "IndexOutOfBoundsException";
    private static final String ARGUMENT = "IllegalArgumentException";
    private static final String STATE = "IllegalStateException";
    private static final String LIMIT = "UnsupportedOperationException";
    private static final String NOTHING = "nothing";

    private static final int[] WILD = {Integer.MIN_VALUE, Integer.MAX_VALUE, -2, -1, 0, 1, 2, 3, 4, 5, 6, 7, 12, 40, 299, 300, 301,
        999, 1000, 1001, 8191, 8192, 8193, 8200, 8201, 1 << 16, 1 << 30};

    private static final String[] TEXTS = {
        "{'$ref':'#/$defs/a','$defs':{'a':{'$anchor':'x','items':{'$ref':'#x'},'pattern':'^[^a-c]+$'},'b':{'multipleOf':0.75}}}",
        "{'properties':{'a':{'type':'integer'},'b':{'pattern':'[xyz]|a{2}'}},'additionalProperties':{'enum':[1,'a',null]}}",
        "{'anyOf':[{'contains':{'const':-0.5},'unevaluatedItems':false},{'type':['string','number']},{'$ref':'#/$defs/n'}],"
            + "'$defs':{'n':{'type':'object','propertyNames':{'maxLength':1}}}}",
        "{'allOf':[{'if':{'required':['a']},'then':{'properties':{'a':{'$ref':'#/$defs/q'}}},'else':false}],"
            + "'$defs':{'q':{'multipleOf':7}},'unevaluatedProperties':{'uniqueItems':true}}",
        "{'items':{'allOf':[{'$ref':'#'},{'$ref':'#'}]},'minItems':1}",
        "{'patternProperties':{'^a':false,'\\\\d$':{'multipleOf':1e-3}},'dependentRequired':{'a':['b']},'minProperties':1}",
        "{'prefixItems':[{'minimum':1},{'maximum':9}],'items':{'oneOf':[true,{'type':'null'}]},'dependentSchemas':{'a':{'not':{}}}}",
        "true", "false", "{}", "[]", "''", "-0.0e-000", "12345678901234567890e-999",
        "['a','^a*$','(a|b){2,}?','[^a-c-]\\\\u{61}','\\\\ud83d\\\\x','(((a)*)*)*','a{50}','\\ud83d\\ude00','\\uD800']",
        "{'a':14,'b':'aa','c':null,'a1':0.001,'':[[1,1.0],[10,1e1]]}",
        "[[[[[[[[[[[[[[[[[[[[[[[[[[[[[[[[[[[[[[[[]]]]]]]]]]]]]]]]]]]]]]]]]]]]]]]]]]]]]]]]",
    };

    private final SchemaJudge x = new SchemaJudge();
    private long state;
    private int fed;
    private boolean passed;

    private WildTest(int seed) {
        state = seed * 7919L + 12345;
    }

    public static void main(String[] args) {
        for (int seed = 0; seed < 5000; seed++) {
            WildTest test = new WildTest(seed);
            for (int i = 0; i < 40; i++) {
                test.step();
            }
        }
        Bench.finish();
    }

    /** A number from 0 to below bound, the same ones in every run of the test. */
    private int draw(int bound) {
        state = state * 6364136223846793005L + 1442695040888963407L;
        return (int) ((state >>> 33) % bound);
    }

    private int wild() {
        return draw(3) == 0 ? WILD[draw(WILD.length)] : draw(20) - 2;
    }

    private void step() {
        switch (draw(14)) {
            case 0 -> wildFeed();
            case 1 -> wildEnd(draw(2) == 0, WILD[draw(WILD.length)]);
            case 2, 3, 4 -> text(draw(2) == 0);
            case 5, 6 -> checkIt();
            case 7, 8 -> validateIt();
            case 9 -> pairIt(wild());
            case 10 -> valueIt(draw(2) == 0, wild(), wild());
            case 11 -> twoValues("alike", wild(), wild());
            case 12 -> twoValues("matches", wild(), wild());
            default -> countIt(wild());
        }
    }

    /** Makes a call: what it throws, by its exact class, and only from the method of the face itself. */
    private static String thrown(String method, Bench.Call call) {
        try {
            call.run();
            return NOTHING;
        } catch (RuntimeException e) {
            StackTraceElement from = e.getStackTrace()[0];
            Bench.same(method + " throws itself", from.getClassName() + "." + from.getMethodName(), "SchemaJudge." + method);
            return e.getClass().getName().replace("java.lang.", "");
        }
    }

    private void wildFeed() {
        int word = WILD[draw(WILD.length)];
        for (int i = draw(8) == 0 ? 300 : 1; i > 0; i--) {
            boolean room = fed + 20 <= 8200;
            Bench.same("feed", thrown("feed", () -> x.feed(word, word + 1, -word, ~word, word * 31)), room ? NOTHING : INDEX);
            fed += room ? 20 : 0;
        }
    }

    private void wildEnd(boolean schema, int n) {
        boolean refused = n < 0 || n > 8192 || n > fed;
        int wrongBefore = x.wrong();
        int valuesBefore = x.count(schema ? 0 : 1);
        String thrown = thrown("end", () -> x.end(schema, n));
        if (refused) {
            Bench.same("end of " + n, thrown, INDEX);
            Bench.same("wrong stays", x.wrong(), wrongBefore);
            Bench.same("the text stays", x.count(schema ? 0 : 1), valuesBefore);
            return;
        }
        fed = 0;
        passed = passed && !schema;
        boolean wrong = x.wrong() != -1;
        Bench.same("end", thrown, wrong ? ARGUMENT : NOTHING);
        Bench.same("wrong within the text", x.wrong() >= -1 && x.wrong() <= n, true);
        Bench.same("a wrong text is none", x.count(schema ? 0 : 1) == 0, wrong);
        Bench.same("no fault of a new schema", !schema || x.fault() == -1, true);
    }

    /** Ends what was fed, and reads a text of the row above, now and then with an octet that is another one. */
    private void text(boolean schema) {
        if (fed > 0) {
            wildEnd(schema, Math.min(fed, 8192));
        }
        byte[] octets = TEXTS[draw(TEXTS.length)].replace('\'', '"').getBytes(StandardCharsets.UTF_8);
        if (draw(3) == 0) {
            octets[draw(octets.length)] = (byte) "\"\\{}[]:,0-.eu \u00ff\u0080\u00c3".charAt(draw(17));
        }
        Bench bench = new Bench(x);
        bench.feed(octets);
        fed = (octets.length + 19) / 20 * 20;
        wildEnd(schema, octets.length);
    }

    private void checkIt() {
        boolean there = x.count(0) > 0;
        int faultBefore = x.fault();
        Bench.same("check", thrown("check", x::check), there ? NOTHING : STATE);
        if (there) {
            int fault = x.check();
            passed = fault == 0;
            Bench.same("a fault has a value", x.fault() >= 0 && x.fault() < x.count(0), !passed);
            Bench.same("a fault has a number", fault >= 0 && fault <= 6, true);
        } else {
            Bench.same("fault stays", x.fault(), faultBefore);
        }
    }

    private void validateIt() {
        boolean ready = x.count(1) > 0 && passed;
        String before = x.pairs() + " " + x.count(2) + " " + x.count(3);
        String thrown = thrown("validate", x::validate);
        if (!ready) {
            Bench.same("validate", thrown, STATE);
            Bench.same("what validate found stays", x.pairs() + " " + x.count(2) + " " + x.count(3), before);
            return;
        }
        boolean over = x.count(2) > 20000 || thrown.equals(LIMIT) && x.count(3) == 100;
        Bench.same("validate", thrown, over ? LIMIT : NOTHING);
        if (over) {
            Bench.same("no pairs beyond the limit", x.pairs(), 0);
        } else {
            boolean good = x.validate();
            Bench.same("good without pairs", x.pairs() == 0, good);
        }
    }

    private void pairIt(int k) {
        boolean keyword = draw(2) == 0;
        String due = k >= 0 && k < x.pairs() ? NOTHING : INDEX;
        Bench.same("pair " + k, thrown("pair", () -> x.pair(k, keyword)), due);
    }

    private void valueIt(boolean schema, int v, int what) {
        boolean there = v >= 0 && v < x.count(schema ? 0 : 1);
        String due = what < 0 || what > 4 ? ARGUMENT : there ? NOTHING : INDEX;
        Bench.same("value " + v + " " + what, thrown("value", () -> x.value(schema, v, what)), due);
    }

    private void twoValues(String method, int v, int w) {
        boolean there = v >= 0 && v < x.count(1) && w >= 0 && w < x.count(1);
        if (method.equals("alike")) {
            Bench.same("alike " + v + " " + w, thrown(method, () -> x.alike(v, w)), there ? NOTHING : INDEX);
            return;
        }
        String thrown = thrown(method, () -> x.matches(v, w));
        boolean strings = there && x.value(false, v, 0) == 4 && x.value(false, w, 0) == 4;
        // A string that is no PATTERN is refused for every string alike.
        String due = !there ? INDEX : !strings ? ARGUMENT : thrown("matches", () -> x.matches(w, w));
        Bench.same("matches " + v + " " + w, thrown, due);
    }

    private void countIt(int what) {
        Bench.same("count " + what, thrown("count", () -> x.count(what)), what >= 0 && what <= 3 ? NOTHING : ARGUMENT);
    }
}
