/** Promises 7, 8, 13 and 14: LIMIT, how many SCHEMAS, how deep, and the 300 PAIRS. */
public final class LimitTest {
    public static void main(String[] args) {
        counts();
        depth();
        tooMany();
        tooManyBefore();
        threeHundredPairs();
        roomComesBack();
        manyCalls();
        Bench.finish();
    }

    private static Bench ready(String schema, String instance) {
        Bench bench = new Bench();
        bench.schema(schema.replace('\'', '"'));
        Bench.same("check() of " + schema, bench.check(), "0 at -1");
        bench.instance(instance.replace('\'', '"'));
        return bench;
    }

    private static void counted(String schema, String instance, int schemas, int deep) {
        Bench bench = ready(schema, instance);
        bench.validate();
        Bench.same("how many of " + schema, bench.judge.count(2), schemas);
        Bench.same("how deep " + schema, bench.judge.count(3), deep);
    }

    private static void counts() {
        counted("true", "1", 1, 1);
        counted("false", "1", 1, 1);
        counted("{'items':true}", "[1,2,3]", 4, 2);
        counted("{'items':true}", "1", 1, 1);
        counted("{'allOf':[false,{'not':true}]}", "1", 4, 3);
        counted("{'anyOf':[true,true]}", "1", 3, 2);
        counted("{'if':true,'then':{},'else':{'not':true}}", "1", 3, 2);
        counted("{'then':true,'else':true,'$defs':{'a':true}}", "1", 1, 1);
        counted("{'contains':true,'minContains':0}", "[1,2]", 3, 2);
        counted("{'properties':{'a':true,'b':true},'additionalProperties':true,'patternProperties':{'^a':true,'':true}}",
            "{'a':1,'c':1}", 5, 2);
        counted("{'propertyNames':true,'unevaluatedProperties':true}", "{'a':1,'c':1}", 5, 2);
        counted("{'prefixItems':[true],'items':true,'unevaluatedItems':true}", "[1,2]", 3, 2);
        counted("{'dependentSchemas':{'a':true,'b':true}}", "{'a':1}", 2, 2);
        counted("{'$ref':'#/$defs/a','$defs':{'a':{'$ref':'#/$defs/b'},'b':true}}", "1", 3, 3);
    }

    /** A SCHEMA by which n arrays in one another are 1 + 3 * n deep at most. */
    private static final String THREE = "{'items':{'$ref':'#/$defs/a'},'$defs':{'a':{'$ref':'#'}}}";

    private static void depth() {
        // The innermost array is at depth 1 + 3 * (n - 1).
        Bench bench = ready(THREE, Bench.times(34, "[") + Bench.times(34, "]"));
        Bench.same("100 deep", bench.validate(), "good");
        Bench.same("100 deep", bench.judge.count(2) + " " + bench.judge.count(3), "100 100");
        bench.instance(Bench.times(35, "[") + Bench.times(35, "]"));
        Bench.same("101 deep", bench.validate(), "limit");
        Bench.same("101 deep", bench.judge.count(2) + " " + bench.judge.count(3), "101 100");
        bench.instance("[]");
        Bench.same("again", bench.validate(), "good");
        bench = ready("{'not':{'$ref':'#/$defs/a'},'$defs':{'a':{'items':{'not':{'not':{'$ref':'#/$defs/a'}}},'maxItems':9}}}",
            Bench.times(40, "[") + Bench.times(40, "]"));
        Bench.same("deep and silent", bench.validate(), "limit");
        Bench.same("deep and silent", bench.judge.count(3), 100);
        Bench.same("no pairs", bench.judge.pairs(), 0);
    }

    private static String list(int n, String element) {
        return "[" + Bench.times(n - 1, element + ",") + element + "]";
    }

    /** 51 elements: 1 + 51 * 392 = 19,993 SCHEMAS, 6 deep, and then those of what is more. */
    private static Bench nearly(String more) {
        String schema = "{'$defs':{'a':{'$anchor':'a','allOf':" + list(10, "{'$ref':'#b'}") + "},'b':{'$anchor':'b','allOf':"
            + list(37, "true") + "}},'items':{'$ref':'#a'}," + more + "}";
        return ready(schema, list(51, "1"));
    }

    private static void nearly(String more, String due) {
        Bench bench = nearly(more);
        String got = bench.validate();
        Bench.same(more, got + " " + bench.judge.count(2) + " " + bench.judge.count(3), due);
    }

    private static void tooMany() {
        nearly("'x':1", "good 19993 6");
        nearly("'allOf':" + list(7, "true"), "good 20000 6");
        nearly("'allOf':" + list(8, "true"), "limit 20001 6");
        nearly("'allOf':" + list(60, "true"), "limit 20001 6");
        nearly("'maxItems':1,'allOf':" + list(7, "true"), "bad 0:87 20000 6");
        nearly("'maxItems':1,'allOf':" + list(8, "true"), "limit 20001 6");
        // In silence they count as well.
        nearly("'not':{'anyOf':" + list(6, "false") + "}", "good 20000 6");
        nearly("'not':{'anyOf':" + list(7, "false") + "}", "limit 20001 6");
    }

    private static void tooManyBefore() {
        String chain = "'not':{'not':{'not':{'not':{'not':{'not':true}}}}}";
        nearly("'allOf':[true]," + chain, "good 20000 7");
        // The one that is too many would have been the deepest.
        nearly("'allOf':[true,true]," + chain, "limit 20001 6");
    }

    private static void threeHundredPairs() {
        // Each element has 8 PAIRS: 60 * 7 + 60 of items' SCHEMA, and 1 of items.
        String schema = "{'items':{'allOf':[false,false,false,false,false,false]}}";
        Bench bench = ready(schema, list(50, "1"));
        bench.validate();
        // 42 elements with 7 each are 294; of the next one six are kept, and its own allOf and items are none.
        Bench.same("300", bench.judge.pairs(), 300);
        Bench.same("first", bench.judge.pair(0, false) + ":" + bench.judge.pair(0, true), "1:4");
        Bench.same("last", bench.judge.pair(299, false) + ":" + bench.judge.pair(299, true), "43:10");
        bench.instance(list(42, "1"));
        bench.validate();
        Bench.same("295", bench.judge.pairs(), 295);
        Bench.same("its own pair comes last, but is sorted", bench.judge.pair(0, false) + ":" + bench.judge.pair(0, true), "0:2");
        // A pair that is there already takes no room.
        bench = ready("{'allOf':[{'$ref':'#/$defs/a'},{'$ref':'#/$defs/a'},{'$ref':'#/$defs/a'}],'$defs':{'a':{'items':"
            + "{'allOf':[false,false,false,false]}}}}", list(58, "1"));
        bench.validate();
        Bench.same("each once", bench.judge.pairs(), 58 * 5 + 1 + 3 + 1);
    }

    private static void roomComesBack() {
        // anyOf finds more than 300, is good in the end, and all of its PAIRS go.
        String many = "{'items':{'allOf':[false,false,false,false,false,false]}}";
        Bench bench = ready("{'anyOf':[" + many + ",true],'items':{'minimum':2}}", list(60, "1"));
        bench.validate();
        Bench.same("room again", bench.judge.pairs(), 61);
        bench = ready("{'anyOf':[" + many + ",{'minItems':70}],'items':{'minimum':2}}", list(60, "1"));
        bench.validate();
        Bench.same("no room", bench.judge.pairs(), 300);
        Bench.same("none of the whole", bench.judge.pair(0, false), 1);
        bench = ready("{'not':" + many + ",'items':{'minimum':2}}", list(60, "1"));
        bench.validate();
        Bench.same("silence takes no room", bench.judge.pairs(), 61);
        bench = ready("{'minItems':61,'anyOf':[" + many + ",true]}", list(60, "1"));
        Bench.same("what was before stays", bench.validate(), "bad 0:2");
    }

    private static void manyCalls() {
        Bench bench = ready("{'items':{'type':'integer','pattern':'^(a|b)*$'}}", "[1]");
        for (int i = 0; i < 120; i++) {
            Bench.same("instance " + i, bench.instance("[1,1.5]"), "3");
            Bench.same("validate " + i, bench.validate(), "bad 0:2 2:4");
        }
    }
}
