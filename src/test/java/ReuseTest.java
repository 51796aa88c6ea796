/** Promises 3 to 13: an object that was used before answers as a new one does. */
public final class ReuseTest {
    private static final String[] SCHEMAS = {
        "{'$ref':'#/$defs/a','$defs':{'a':{'$anchor':'x','items':{'$ref':'#x'},'pattern':'^[^a-c]+$'},'b':{'multipleOf':0.75}}}",
        "{'x':1,'y':{'type':5,'$id':1},'z':[{},{},{}],'minimum':0}",
        "{'properties':{'a':{'type':'integer'},'b':{'pattern':'[xyz]|a{2}'}},'additionalProperties':{'enum':[1,'a',null]}}",
        "{'$ref':'#'}",
        "{'not':{'pattern':'('}}",
        "{'anyOf':[{'contains':{'const':-0.5},'unevaluatedItems':false},{'type':['string','number']},{'$ref':'#/$defs/n'}],"
            + "'$defs':{'n':{'type':'object','propertyNames':{'maxLength':1}}}}",
        "false",
        "{'allOf':[{'if':{'required':['a']},'then':{'properties':{'a':{'$ref':'#/$defs/q'}}},'else':false}],'$defs':{'q':{'multipleOf':7}},"
            + "'unevaluatedProperties':{'uniqueItems':true}}",
        "{'$defs':{'a':{'$anchor':'p'},'b':{'$anchor':'p'}}}",
        "[",
        "{'items':{'$ref':'#/items'}}",
        "{'items':{'items':{'$ref':'#'}},'prefixItems':[{'minimum':1},{'maximum':9}],'uniqueItems':true}",
        "true",
        "{'patternProperties':{'^a':false,'\\\\d$':{'multipleOf':1e-3}},'dependentRequired':{'a':['b']}}",
    };

    private static final String[] INSTANCES = {
        "{'a':14,'b':'aa','c':null}", "[-0.5,[1,2,3],[1,[1,[1]]]]", "'xyz'", "{'a':1.5,'b':'q','cc':{'d':[1,1]}}", "[[[[]]]]",
        "-1234567890123456789012345678901234567890", "[0,1,2,3,0.0,-0]", "{", "null", "{'a1':0.001,'b1':0.0001,'a':[]}", "'abc'",
        "[[1,1],[10,10]]", "\"\\ud83d", "{'a':7,'z':[1,2,3]}", "'[^x]'", "true", "10", "-10", "[1e5,100000,'100000']",
    };

    public static void main(String[] args) {
        for (int step = 1; step <= 13; step++) {
            Bench used = new Bench();
            for (int i = 0; i < 30; i++) {
                String schema = SCHEMAS[(i * step + i / 7) % SCHEMAS.length];
                String instance = INSTANCES[(i * (step + 2) + i / 5) % INSTANCES.length];
                Bench.same("used object, " + schema + " on " + instance, all(used, schema, instance), all(new Bench(), schema,
                    instance));
            }
        }
        patternsOneBehindTheOther();
        manySets();
        referencesOneBehindTheOther();
        divisionsOneBehindTheOther();
        Bench.finish();
    }

    private static final String[] PATTERNS = {
        "\\\\d", "\\\\", "a{2}", "a{2", "a{", "[abc]", "[x]", "[^x]", "[b]", "[", "(a)", "(a", "(", "(?:a)", "(?:", "(?",
            "\\\\u{62}", "\\\\u{62", "\\\\x62", "\\\\x6", "\\\\u0062", "\\\\u006",
        "b|", "b", "(c|b)*d", "^b*$", "^(b|c)?$", "x*", "^x", "[a-c]", "[a-", "[c-a]", "[^\\\\d]", "[\\\\d]", "[\\\\w]", "[]",
        "[^]", "(b){50}", "", "b{0}$", "^$", "a+?", "b$", "(", ")"
    };

    /** Each PATTERN behind each other one in the same object. */
    private static void patternsOneBehindTheOther() {
        String[] alone = new String[PATTERNS.length];
        StringBuilder instance = new StringBuilder("[\"b\"");
        for (int i = 0; i < PATTERNS.length; i++) {
            Bench one = new Bench();
            one.instance("[\"b\",\"" + PATTERNS[i] + "\"]");
            alone[i] = Bench.outcome(() -> one.judge.matches(1, 2));
            instance.append(",\"").append(PATTERNS[i]).append('"');
        }
        for (int i = 0; i < PATTERNS.length; i++) {
            Bench used = new Bench();
            used.instance(instance + "]");
            int first = 2 + i;
            for (int k = 0; k < PATTERNS.length; k++) {
                int second = 2 + k;
                Bench.outcome(() -> used.judge.matches(1, first));
                Bench.same(PATTERNS[k] + " behind " + PATTERNS[i], Bench.outcome(() -> used.judge.matches(1, second)), alone[k]);
            }
        }
    }

    /** What one PATTERN took, its SIZE and its sets, the next one has again. */
    private static void manySets() {
        Bench used = new Bench();
        used.instance("[\"y\",\"" + Bench.times(399, "[a-x]") + "\",\"" + Bench.times(100, "[abcdefg]") + "|[y]\"]");
        for (int i = 0; i < 200; i++) {
            Bench.same("no", used.judge.matches(1, 2), false);
            Bench.same("yes", used.judge.matches(1, 3), true);
        }
    }

    private static void referencesOneBehindTheOther() {
        Bench.checks("{\"items\":{\"$ref\":\"#\"},\"not\":{\"$ref\":\"\"}}", "5 at 8");
        Bench.checks("{\"items\":{\"$ref\":\"#/not\"},\"not\":{\"$ref\":\"\"}}", "5 at 8");
        Bench.checks("{\"items\":{\"$ref\":\"#/$defs/a~0\"},\"not\":{\"$ref\":\"#/$defs/a~\"},\"$defs\":{\"a~\":{}}}", "5 at 8");
        Bench.checks("{\"items\":{\"$ref\":\"#/$defs/ab\"},\"not\":{\"$ref\":\"#/$defs/a\"},\"$defs\":{\"ab\":{}}}", "5 at 8");
        Bench.checks("{\"items\":{\"$ref\":\"#/$defs/a%41\"},\"not\":{\"$ref\":\"#/$defs/a%4\"},\"$defs\":{\"aA\":{}}}",
            "5 at 8");
    }

    private static void divisionsOneBehindTheOther() {
        Bench.judges("{\"items\":{\"multipleOf\":3}}", "[1,3,2,3,5,12,12e60,-7,0,21]", "bad 0:2 1:4 3:4 5:4 8:4");
        Bench.judges("{\"items\":{\"multipleOf\":10000000000000000000001}}",
            "[1e50,10000000000000000000001,99,30000000000000000000003]", "bad 0:2 1:4 3:4");
    }

    private static String all(Bench bench, String schema, String instance) {
        StringBuilder told = new StringBuilder();
        told.append(bench.schema(schema.replace('\'', '"'))).append(" | ");
        told.append(Bench.outcome(bench::check)).append(" | ");
        told.append(bench.instance(instance.replace('\'', '"'))).append(" | ");
        boolean ready = !Bench.outcome(() -> bench.judge.validate()).equals("IllegalStateException");
        if (ready) {
            told.append(bench.validate()).append(" | ").append(bench.judge.count(2)).append(" ").append(bench.judge.count(3));
        }
        for (int v = 0; v < Math.min(4, bench.judge.count(1)); v++) {
            int w = v;
            told.append(" | ").append(bench.value(false, v)).append(" ").append(Bench.outcome(() -> bench.judge.matches(w, w)));
            told.append(" ").append(Bench.outcome(() -> bench.judge.alike(w, w + 1)));
        }
        return told.toString();
    }
}
