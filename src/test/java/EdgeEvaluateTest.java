/** Boundary cases of Terms 3, a method for each sentence that names one: on the limit, and just beyond it. */
public final class EdgeEvaluateTest {
    public static void main(String[] args) {
        trueAndFalse();
        anObjectWithoutKeywords();
        unevaluatedComeLast();
        oneOfMany();
        ifNeverFails();
        thenAndElseWhereIfStands();
        dependentSchemas();
        integers();
        enumAndConst();
        multiples();
        bounds();
        lengths();
        prefixItems();
        itemsBehindThemAll();
        contains();
        minContainsAlone();
        itemCounts();
        noTwoAlike();
        properties();
        patternProperties();
        additionalProperties();
        propertyNames();
        propertyCounts();
        required();
        dependentRequired();
        unevaluatedItems();
        unevaluatedProperties();
        evaluatedOfGoodOnes();
        keywordsForOthers();
        pairsOfSilentOnes();
        pairsOfAnyOfAndOneOf();
        sortedEachOnce();
        threeHundred();
        threeHundredAtATime();
        theOrderOfWhatIsKept();
        hundredDeep();
        tooDeepAnywhere();
        twentyThousand();
        Bench.finish();
    }

    private static void judges(String schema, String instance, String due) {
        Bench.judges(schema.replace('\'', '"'), instance.replace('\'', '"'), due);
    }

    private static void good(String schema, String... instances) {
        for (String instance : instances) {
            judges(schema, instance, "good");
        }
    }

    private static void bad(String schema, String pairs, String... instances) {
        for (String instance : instances) {
            judges(schema, instance, "bad " + pairs);
        }
    }

    private static String list(int n, String element) {
        return n == 0 ? "[]" : "[" + Bench.times(n - 1, element + ",") + element + "]";
    }

    /** An object of n members, whose last one has the name. */
    private static String members(int n, String last) {
        StringBuilder text = new StringBuilder("{");
        for (int i = 1; i < n; i++) {
            text.append("'m").append(i).append("':1,");
        }
        return text.append("'").append(last).append("':1}").toString();
    }

    private static final String[] KINDS = {"null", "true", "false", "0", "1.5", "''", "'a'", "[]", "[1]", "{}", "{'a':1}"};

    private static void trueAndFalse() {
        good("true", KINDS);
        bad("false", "0:0", KINDS);
        good("{'not':false}", KINDS);
        bad("{'not':true}", "0:2", KINDS);
        bad("{'allOf':[false]}", "0:2 0:3", KINDS);
        bad("{'items':false}", "0:2 1:2", "[1]", "[[]]");
        good("{'items':false}", "[]");
    }

    private static void anObjectWithoutKeywords() {
        good("{}", KINDS);
        good("{'x':false,'':false,'Not':true}", KINDS);
        good("{'$defs':{'a':false},'$anchor':'a','then':false,'else':false,'minContains':9,'maxContains':0}", KINDS);
    }

    private static void unevaluatedComeLast() {
        good("{'unevaluatedProperties':false,'properties':{'a':true},'allOf':[{'properties':{'b':true}}]}", "{'a':1,'b':1}");
        good("{'unevaluatedItems':false,'prefixItems':[true],'anyOf':[{'items':true}]}", "[]", "[1]", "[1,2]");
        good("{'unevaluatedProperties':false,'additionalProperties':true}", "{'a':1}");
        good("{'unevaluatedProperties':false,'if':{'properties':{'a':true}}}", "{'a':1}");
    }

    private static void oneOfMany() {
        String sixty = "[" + Bench.times(59, "false,") + "true]";
        good("{'anyOf':" + sixty + "}", "1");
        good("{'oneOf':" + sixty + "}", "1");
        good("{'allOf':[true]}", "1");
        good("{'anyOf':[true,true]}", "1");
        good("{'oneOf':[true]}", "1");
        bad("{'oneOf':[true,true]}", "0:2", "1");
        bad("{'oneOf':[true,true,true]}", "0:2", "1");
        bad("{'oneOf':[false]}", "0:2 0:3", "1");
        bad("{'anyOf':[false]}", "0:2 0:3", "1");
        bad("{'allOf':[true,false]}", "0:2 0:4", "1");
        bad("{'oneOf':[true,false,true]}", "0:2 0:4", "1");
    }

    private static void ifNeverFails() {
        good("{'if':false}", KINDS);
        good("{'if':true}", KINDS);
        good("{'if':true,'else':false}", KINDS);
        good("{'if':false,'then':false}", KINDS);
        bad("{'if':true,'then':false}", "0:4", KINDS);
        bad("{'if':false,'else':false}", "0:4", KINDS);
        good("{'then':false}", KINDS);
        good("{'else':false}", KINDS);
    }

    private static void thenAndElseWhereIfStands() {
        bad("{'then':false,'if':true}", "0:2", "1");
        bad("{'else':false,'if':false}", "0:2", "1");
        // 299 PAIRS, then that of then: the one behind it is a further one
        String many = "{'items':{'allOf':" + list(60, "false") + "}}";
        Bench bench = ready("{'maxItems':4,'$ref':'#/$defs/m','if':true,'minItems':9,'then':{'maxItems':4},'$defs':{'m':" + many
            + "}}", list(5, "0"));
        bench.validate();
        Bench.same("full before", bench.judge.pairs(), 300);
        Bench order = ready("{'allOf':[{'prefixItems':[{'allOf':" + list(60, "false") + "},{'allOf':" + list(60, "false")
            + "},{'allOf':" + list(60, "false")
            + "},{'allOf':" + list(60, "false") + "},{'allOf':" + list(49, "false") + "}]}],'then':false,'minItems':9,'if':true}",
                list(5, "0"));
        // 4 * 61 + 50 = 294, prefixItems, allOf, minItems, then
        order.validate();
        Bench.same("298", order.judge.pairs(), 298);
        bench = ready("{'then':{'type':'null'},'anyOf':[" + many + "],'minItems':9,'if':true}", list(5, "0"));
        bench.validate();
        Bench.same("none is kept of what is behind", bench.judge.pair(0, false), 1);
    }

    private static void dependentSchemas() {
        good("{'dependentSchemas':{}}", KINDS);
        good("{'dependentSchemas':{'a':false}}", "{}", "{'b':1}", "{'A':1}", "{'b':{'a':1}}", "'a'", "['a']", "null");
        bad("{'dependentSchemas':{'a':false}}", "0:2 0:4", "{'a':1}", "{'a':null}", "{'\\u0061':false}");
        bad("{'dependentSchemas':{'':false,'a':true}}", "0:2 0:4", "{'':1,'a':1}");
    }

    private static void integers() {
        good("{'type':'integer'}", "0", "-0", "1", "-1", "1.0", "10e-1", "1.5e1", "0.0", "0e-999", "1e999", "-1e999",
            Bench.times(60, "9"), "1." + Bench.times(59, "0"),
            "0." + Bench.times(58, "0") + "1e59");
        bad("{'type':'integer'}", "0:2", "0.1", "-0.5", "1e-1", "15e-2", "1e-999", "1." + Bench.times(58, "0") + "1", "0."
            + Bench.times(58, "0") + "1e58", "'1'", "true", "null", "[1]", "{}");
        good("{'type':'number'}", "0", "1.5", "1e-999");
        good("{'type':['integer','string']}", "1", "'a'");
        bad("{'type':['integer','string']}", "0:2", "1.5", "null");
    }

    private static void enumAndConst() {
        bad("{'enum':[]}", "0:2", KINDS);
        for (String kind : KINDS) {
            good("{'const':" + kind + "}", kind);
            good("{'enum':[7," + kind + "]}", kind, "7", "7.0");
        }
        bad("{'const':0}", "0:2", "false", "null", "''", "[]", "{}", "'0'", "1e-999");
        bad("{'const':false}", "0:2", "0", "true", "null", "''");
        bad("{'const':null}", "0:2", "0", "false", "''", "[]", "{}");
        good("{'enum':" + list(59, "1").replace("]", ",2]") + "}", "2");
        good("{'const':0}", "-0", "0.0", "0e999");
    }

    private static void multiples() {
        good("{'multipleOf':3}", "0", "-0", "3", "-3", "9e999", "3.0", "0.3e1", Bench.times(60, "9"), "'a'", "null");
        bad("{'multipleOf':3}", "0:2", "1", "2", "4", "-1", "3.3", "1e999", "1e-999", Bench.times(59, "9") + "8");
        good("{'multipleOf':1e-999}", "0", "1e-999", "1e999", Bench.times(60, "9"), "1e-998");
        good("{'multipleOf':1e999}", "0", "1e999", "10e999", Bench.times(60, "9") + "e999");
        bad("{'multipleOf':1e999}", "0:2", "1e998", "1", "15e998", "1e-999");
        bad("{'multipleOf':0.01}", "0:2", "0.001", "0.015");
        good("{'multipleOf':0.01}", "0.01", "0.02", "1", "19.99");
        bad("{'multipleOf':" + Bench.times(60, "9") + "}", "0:2", "1", Bench.times(59, "9"), Bench.times(59, "9") + "8", "1e60");
        good("{'multipleOf':" + Bench.times(60, "9") + "}", Bench.times(60, "9"), Bench.times(60, "9") + "e3", "0");
        good("{'multipleOf':0.5}", "1e999", "1.5");
    }

    private static void bounds() {
        String[] below = {"4", "4.9", "4." + Bench.times(59, "9"), "0", "-5", "-1e999", "1e-999"};
        String[] alike = {"5", "5.0", "50e-1", "0.5e1"};
        String[] above = {"6", "5.1", "5." + Bench.times(58, "0") + "1", "50", "1e999"};
        String[] others = {"'a'", "null", "true", "[9]", "{'a':9}"};
        String[] names = {"maximum", "exclusiveMaximum", "minimum", "exclusiveMinimum"};
        for (int i = 0; i < names.length; i++) {
            String schema = "{'" + names[i] + "':5}";
            good(schema, i < 2 ? below : above);
            bad(schema, "0:2", i < 2 ? above : below);
            good(schema, others);
            if (i % 2 == 0) {
                good(schema, alike);
            } else {
                bad(schema, "0:2", alike);
            }
        }
        good("{'maximum':0,'minimum':0}", "0", "-0", "0.0", "0e999");
        bad("{'maximum':0,'minimum':-0}", "0:2", "1e-999");
        bad("{'maximum':0,'minimum':-0}", "0:4", "-1e-999");
        bad("{'exclusiveMaximum':0,'exclusiveMinimum':0}", "0:2 0:4", "0", "-0");
        good("{'maximum':-5}", "-5", "-5.1", "-6", "-1e999");
        bad("{'maximum':-5}", "0:2", "-4.9", "0", "5");
    }

    private static void lengths() {
        good("{'maxLength':0}", "''");
        bad("{'maxLength':0}", "0:2", "'a'", "'\\u0000'");
        good("{'minLength':0}", "''", "'a'");
        bad("{'minLength':1}", "0:2", "''");
        good("{'maxLength':2,'minLength':2}", "'ab'", "'\\n\\n'", "'\\ud83d\\ude00\\ud83d\\ude00'", "'\ud83d\ude00\u00e9'");
        bad("{'maxLength':2,'minLength':2}", "0:2", "'abc'");
        bad("{'maxLength':2,'minLength':2}", "0:4", "'a'", "'\\ud83d\\ude00'", "'\ud83d\ude00'");
        good("{'maxLength':3999,'minLength':3999}", "'" + Bench.times(3999, "a") + "'");
        bad("{'maxLength':3999}", "0:2", "'" + Bench.times(4000, "a") + "'");
        good("{'maxLength':1000000}", "'" + Bench.times(4000, "a") + "'");
        bad("{'minLength':1000000}", "0:2", "'" + Bench.times(4000, "a") + "'");
        good("{'maxLength':0,'minLength':9,'pattern':'x'}", "null", "12345", "[]", "['abc']", "{}", "{'abc':1}");
    }

    private static void prefixItems() {
        good("{'prefixItems':[false]}", "[]", "{}", "'a'");
        bad("{'prefixItems':[false]}", "0:2 1:3", "[1]", "[1,2]");
        good("{'prefixItems':[true,false]}", "[]", "[1]");
        bad("{'prefixItems':[true,false]}", "0:2 2:4", "[1,2]", "[1,2,3]");
        good("{'prefixItems':" + list(60, "{'type':'null'}") + "}", list(60, "null"), list(59, "null"));
        bad("{'prefixItems':" + list(60, "{'type':'null'}") + "}", "0:2 60:182", list(59, "null").replace("]", ",1]"));
    }

    private static void itemsBehindThemAll() {
        good("{'prefixItems':[true,true],'items':false}", "[]", "[1]", "[1,2]");
        bad("{'prefixItems':[true,true],'items':false}", "0:6 3:6", "[1,2,3]");
        bad("{'items':false,'prefixItems':[true,true]}", "0:2 3:2 4:2", "[1,2,3,4]");
        good("{'prefixItems':" + list(59, "true") + ",'items':false}", list(59, "1"));
        bad("{'prefixItems':" + list(59, "true") + ",'items':false}", "0:63 60:63", list(60, "1"));
        good("{'prefixItems':" + list(60, "true") + ",'items':false}", list(60, "1"));
        bad("{'items':false}", "0:2 1:2", "[1]");
        // prefixItems of another SCHEMA is not looked at
        bad("{'allOf':[{'prefixItems':[true]}],'items':false}", "0:8 1:8", "[1]");
    }

    private static void contains() {
        bad("{'contains':true}", "0:2", "[]");
        good("{'contains':true}", "[1]", "{}", "'a'", "null", list(60, "1"));
        bad("{'contains':false}", "0:2", "[]", "[1]");
        good("{'contains':{'const':1}}", "[1]", "[2,1]", "[1,2]", list(59, "2").replace("]", ",1]"));
        bad("{'contains':{'const':1}}", "0:2", "[2]", "[]", list(60, "2"));
        good("{'contains':true,'minContains':0}", "[]", "[1]");
        good("{'contains':false,'minContains':0}", "[]", "[1]");
        good("{'contains':true,'minContains':2}", "[1,2]", "[1,2,3]");
        bad("{'contains':true,'minContains':2}", "0:2", "[]", "[1]");
        good("{'maxContains':2,'contains':true}", "[1]", "[1,2]");
        bad("{'maxContains':2,'contains':true}", "0:4", "[]", "[1,2,3]");
        good("{'contains':true,'maxContains':0,'minContains':0}", "[]");
        bad("{'contains':true,'maxContains':0,'minContains':0}", "0:2", "[1]");
        bad("{'contains':true,'maxContains':0}", "0:2", "[]", "[1]");
        bad("{'contains':true,'maxContains':1,'minContains':2}", "0:2", "[]", "[1]", "[1,2]", "[1,2,3]");
        good("{'contains':true,'minContains':60,'maxContains':60}", list(60, "1"));
        bad("{'contains':true,'minContains':61}", "0:2", list(60, "1"));
        bad("{'contains':true,'maxContains':59}", "0:2", list(60, "1"));
        bad("{'contains':true,'minContains':1000000}", "0:2", list(60, "1"));
    }

    private static void minContainsAlone() {
        good("{'minContains':1}", "[]", "[1]");
        good("{'maxContains':0}", "[]", "[1]");
        good("{'minContains':2,'maxContains':1,'items':true}", "[]", "[1,2]");
        // those of another SCHEMA are alone
        good("{'contains':true,'allOf':[{'minContains':5}]}", "[1]");
        good("{'allOf':[{'contains':true}],'maxContains':0}", "[1]");
    }

    private static void itemCounts() {
        good("{'maxItems':0}", "[]", "{'a':1}", "'a'");
        bad("{'maxItems':0}", "0:2", "[1]");
        good("{'minItems':0}", "[]");
        bad("{'minItems':1}", "0:2", "[]");
        good("{'maxItems':2,'minItems':2}", "[1,2]", "[[1,2,3],[]]");
        bad("{'maxItems':2,'minItems':2}", "0:2", "[1,2,3]");
        bad("{'maxItems':2,'minItems':2}", "0:4", "[1]", "[[1,2]]");
        good("{'maxItems':60,'minItems':60}", list(60, "1"));
        bad("{'maxItems':59}", "0:2", list(60, "1"));
        bad("{'minItems':61}", "0:2", list(60, "1"));
        good("{'minItems':1,'uniqueItems':true}", "{}", "''", "null", "0");
    }

    private static void noTwoAlike() {
        good("{'uniqueItems':true}", "[]", "[1]", "[1,2]", "[1,'1',true,null,[],{}]", "[0,false,'',null,[],{}]", "[[1],[2]]",
            "{'a':1,'b':1}", "'aa'");
        bad("{'uniqueItems':true}", "0:2", "[1,1]", "[1,1.0]", "[0,-0]", "[[],[]]", "[{},{}]", "['','']", "[null,null]",
            "[{'a':1,'b':2},{'b':2,'a':1}]", "[1,2,1]", "[2,1,1]");
        good("{'uniqueItems':false}", "[1,1]");
        StringBuilder sixty = new StringBuilder("[0");
        for (int i = 1; i < 59; i++) {
            sixty.append(",").append(i);
        }
        good("{'uniqueItems':true}", sixty + ",59]");
        bad("{'uniqueItems':true}", "0:2", sixty + ",0]", sixty + ",58]", sixty + ",3e1]");
    }

    private static void properties() {
        good("{'properties':{}}", "{}", "{'a':1}");
        good("{'properties':{'a':false}}", "{}", "{'A':1}", "{'':1}", "{'aa':1}", "{'b':{'a':1}}", "['a']", "'a'");
        bad("{'properties':{'a':false}}", "0:2 2:4", "{'a':1}", "{'\\u0061':null}");
        bad("{'properties':{'':false}}", "0:2 2:4", "{'':1}");
        bad("{'properties':{'a':false}}", "0:2 120:4", members(60, "a"));
    }

    private static void patternProperties() {
        good("{'patternProperties':{}}", "{'a':1}");
        bad("{'patternProperties':{'':false}}", "0:2 2:4 4:4", "{'':1,'a':1}");
        good("{'patternProperties':{'^$':false}}", "{}", "{'a':1}");
        bad("{'patternProperties':{'^$':false}}", "0:2 2:4", "{'':1}");
        bad("{'patternProperties':{'a':false,'b':false}}", "0:2 2:4 4:6 6:4 6:6", "{'a':1,'b':1,'ab':1,'c':1}");
        bad("{'patternProperties':{'~':false}}", "0:2 120:4", members(60, "~"));
    }

    private static void additionalProperties() {
        bad("{'additionalProperties':false}", "0:2 2:2", "{'a':1}", "{'':1}");
        good("{'additionalProperties':false}", "{}", "[1]", "'a'");
        good("{'properties':{'a':true},'additionalProperties':false}", "{}", "{'a':1}");
        bad("{'properties':{'a':true},'additionalProperties':false}", "0:6 2:6", "{'b':1}", "{'A':1}");
        good("{'additionalProperties':false,'patternProperties':{'':true}}", "{'a':1,'':1}");
        bad("{'additionalProperties':false,'patternProperties':{}}", "0:2 2:2", "{'a':1}");
        // what properties looks at and FAILS is none of additionalProperties' all the same
        bad("{'properties':{'a':false},'additionalProperties':false}", "0:2 2:4", "{'a':1}");
        bad("{'additionalProperties':false}", "0:2 2:2 4:2", "{'a':1,'b':1}");
    }

    private static void propertyNames() {
        good("{'propertyNames':false}", "{}", "[1]", "'a'");
        bad("{'propertyNames':false}", "0:2 1:2 3:2", "{'a':1,'b':1}");
        good("{'propertyNames':{'minLength':1,'type':'string'}}", "{'a':''}");
        bad("{'propertyNames':{'minLength':1}}", "0:2 1:4", "{'':1}");
        bad("{'propertyNames':{'allOf':[{'const':'a'}]}}", "0:2 3:4 3:7", "{'a':1,'b':1}");
        bad("{'propertyNames':{'pattern':'^[a-y]$'}}", "0:2 5:4", "{'a':1,'y':1,'z':1}");
    }

    private static void propertyCounts() {
        good("{'maxProperties':0}", "{}", "[1]", "'a'");
        bad("{'maxProperties':0}", "0:2", "{'':1}");
        good("{'minProperties':0}", "{}");
        bad("{'minProperties':1}", "0:2", "{}");
        good("{'maxProperties':2,'minProperties':2}", "{'a':1,'b':1}");
        bad("{'maxProperties':2,'minProperties':2}", "0:4", "{'a':1}", "{'a':{'a':1,'b':1}}");
        bad("{'maxProperties':2,'minProperties':2}", "0:2", "{'a':1,'b':1,'c':1}");
        good("{'maxProperties':60,'minProperties':60}", members(60, "a"));
        bad("{'minProperties':61}", "0:2", members(60, "a"));
        bad("{'maxProperties':59}", "0:2", members(60, "a"));
    }

    private static void required() {
        good("{'required':[]}", KINDS);
        bad("{'required':['']}", "0:2", "{}", "{'a':1}");
        good("{'required':['']}", "{'':1}", "{'':null}", "[]", "''", "null");
        good("{'required':['a','b']}", "{'b':1,'a':1}", "{'c':1,'a':1,'b':1}");
        bad("{'required':['a','b']}", "0:2", "{'a':1}", "{'b':1}", "{'a':1,'B':1}", "{'c':{'a':1,'b':1}}");
    }

    private static void dependentRequired() {
        good("{'dependentRequired':{}}", KINDS);
        good("{'dependentRequired':{'a':[]}}", "{'a':1}");
        good("{'dependentRequired':{'a':['a']}}", "{'a':1}", "{}");
        good("{'dependentRequired':{'':['b']}}", "{}", "{'a':1}", "{'':1,'b':1}");
        bad("{'dependentRequired':{'':['b']}}", "0:2", "{'':1}");
        bad("{'dependentRequired':{'a':['b','c']}}", "0:2", "{'a':1,'b':1}", "{'a':1,'c':1}", "{'a':1}");
        bad("{'dependentRequired':{'a':['b'],'c':['d']}}", "0:2", "{'c':1}", "{'a':1}", "{'a':1,'c':1}", "{'a':1,'b':1,'c':1}");
    }

    private static void unevaluatedItems() {
        good("{'unevaluatedItems':false}", "[]", "{}", "{'a':1}", "'a'", "null");
        bad("{'unevaluatedItems':false}", "0:2 1:2", "[1]");
        good("{'prefixItems':" + list(59, "true") + ",'unevaluatedItems':false}", list(59, "1"));
        bad("{'prefixItems':" + list(59, "true") + ",'unevaluatedItems':false}", "0:63 60:63", list(60, "1"));
        good("{'contains':{'const':1},'unevaluatedItems':false}", "[1]", list(60, "1"));
        bad("{'contains':{'const':1},'unevaluatedItems':false}", "0:6 60:6", list(59, "1").replace("]", ",2]"));
        bad("{'contains':{'const':1},'minContains':0,'unevaluatedItems':false}", "0:8 1:8", "[2]");
        // then they are EVALUATED
        good("{'allOf':[{'unevaluatedItems':true}],'unevaluatedItems':false}", "[1]", list(60, "1"));
        bad("{'allOf':[{'unevaluatedItems':{'const':1}}],'unevaluatedItems':false}", "0:2 0:5 0:9 1:9 2:7 2:9", "[1,2]");
    }

    private static void unevaluatedProperties() {
        good("{'unevaluatedProperties':false}", "{}", "[]", "[1]", "'a'", "null");
        bad("{'unevaluatedProperties':false}", "0:2 2:2", "{'a':1}", "{'':1}");
        good("{'patternProperties':{'':true},'unevaluatedProperties':false}", members(60, "a"));
        bad("{'patternProperties':{'^[^~]+$':true},'unevaluatedProperties':false}", "0:6 120:6", members(60, "~"));
        good("{'allOf':[{'unevaluatedProperties':true}],'unevaluatedProperties':false}", "{'a':1}");
        bad("{'properties':{'a':{'unevaluatedProperties':true}},'unevaluatedProperties':false}", "0:8 6:8",
            "{'a':{'b':1},'b':1}");
    }

    private static void evaluatedOfGoodOnes() {
        String[] inPlace = {"'allOf':[@]", "'anyOf':[@]", "'oneOf':[@]", "'if':@", "'if':true,'then':@", "'if':false,'else':@",
            "'dependentSchemas':{'a':@}", "'$ref':'#/$defs/s','$defs':{'s':@}"};
        for (String keyword : inPlace) {
            good("{" + keyword.replace("@", "{'properties':{'a':true}}") + ",'unevaluatedProperties':false}", "{'a':1}");
            Bench bench = ready("{" + keyword.replace("@", "{'properties':{'a':true},'required':['b']}")
                + ",'unevaluatedProperties':false}", "{'a':1}");
            bench.validate();
            int last = bench.judge.pairs() - 1;
            Bench.same("not good, not EVALUATED: " + keyword, last >= 0 ? bench.judge.pair(last, false) : -1, 2);
        }
        bad("{'not':{'properties':{'a':true},'required':['b']},'unevaluatedProperties':false}", "0:11 2:11", "{'a':1}");
        bad("{'not':{'not':{'properties':{'a':true}}},'unevaluatedProperties':false}", "0:10 2:10", "{'a':1}");
        bad("{'then':{'properties':{'a':true}},'unevaluatedProperties':false}", "0:8 2:8", "{'a':1}");
    }

    private static void keywordsForOthers() {
        String all = "{'multipleOf':7,'maximum':-9,'maxLength':0,'minLength':1,'pattern':'[]','maxItems':0,'minItems':1,'contains':false,'maxProperties':0,'minProperties':1,'required':['q']}";
        good(all, "null", "true", "false");
        bad(all, "0:2 0:4", "1");
        bad(all, "0:6 0:10", "'a'");
        bad(all, "0:8 0:10", "''");
        bad(all, "0:12 0:16", "[1]");
        bad(all, "0:14 0:16", "[]");
        bad(all, "0:18 0:22", "{'a':1}");
        bad(all, "0:20 0:22", "{}");
    }

    private static void pairsOfSilentOnes() {
        good("{'not':{'type':'null','minimum':9}}", "1");
        bad("{'not':{'not':{'minimum':9}}}", "0:2", "1");
        good("{'if':{'minimum':9}}", "1");
        bad("{'contains':{'minimum':9}}", "0:2", "[1,2]");
        good("{'contains':{'minimum':9}}", "[1,10]");
        bad("{'not':{'anyOf':[false,true]}}", "0:2", "1");
        good("{'not':{'anyOf':[false,false]}}", "1");
        // silence ends with the KEYWORD
        bad("{'not':false,'minimum':9}", "0:4", "1");
        bad("{'if':{'not':{'not':false}},'else':{'minimum':9},'maximum':0}", "0:8 0:10 0:12", "1");
        bad("{'items':{'not':true}}", "0:2 1:4", "[1]");
    }

    private static void pairsOfAnyOfAndOneOf() {
        good("{'anyOf':[false,{'minimum':9},true]}", "1");
        good("{'oneOf':[false,{'minimum':9},true]}", "1");
        bad("{'anyOf':[false,{'minimum':9}]}", "0:2 0:3 0:6", "1");
        bad("{'oneOf':[true,{'minimum':9},true]}", "0:2 0:6", "1");
        bad("{'anyOf':[{'anyOf':[false,true],'minimum':9},{'oneOf':[false]}]}", "0:2 0:9 0:12 0:13", "1");
        bad("{'maximum':0,'anyOf':[false,true],'minimum':9}", "0:2 0:8", "1");
    }

    private static void sortedEachOnce() {
        bad("{'items':{'minimum':9},'maxItems':0}", "0:2 0:6 1:4 2:4", "[1,2]");
        bad("{'$ref':'#/$defs/a','allOf':[{'$ref':'#/$defs/a'}],'$defs':{'a':{'minimum':9}}}", "0:2 0:4 0:7 0:13", "1");
        // kept before anyOf, found by it once more, and kept when anyOf is good
        bad("{'$ref':'#/$defs/a','anyOf':[{'$ref':'#/$defs/a'},true],'$defs':{'a':{'minimum':9}}}", "0:2 0:14", "1");
        // found by anyOf first, forgotten, and found again
        bad("{'anyOf':[{'$ref':'#/$defs/a'},true],'$ref':'#/$defs/a','$defs':{'a':{'minimum':9}}}", "0:8 0:14", "1");
    }

    private static Bench ready(String schema, String instance) {
        Bench bench = new Bench();
        bench.schema(schema.replace('\'', '"'));
        Bench.same("check() of " + schema, bench.check(), "0 at -1");
        bench.instance(instance.replace('\'', '"'));
        return bench;
    }

    private static String pair(Bench bench, int k) {
        return bench.judge.pair(k, false) + ":" + bench.judge.pair(k, true);
    }

    private static void threeHundred() {
        // each element has n PAIRS by its allOf and one of allOf; then one of items
        Bench bench = ready("{'items':{'allOf':" + list(12, "false") + "}}", list(23, "0"));
        bench.validate();
        Bench.same("23 * 13 + 1", bench.judge.pairs(), 300);
        Bench.same("the 300th that was found", pair(bench, 0), "0:2");
        Bench.same("the last", pair(bench, 299), "23:16");
        Bench.same("no 301st", Bench.outcome(() -> bench.judge.pair(300, false)), "IndexOutOfBoundsException");
        bench.instance(list(24, "0"));
        Bench.same("not good all the same", bench.judge.validate(), false);
        Bench.same("24 * 13 + 1", bench.judge.pairs(), 300);
        Bench.same("items itself is a further one", pair(bench, 0), "1:4");
        Bench.same("the 300th", pair(bench, 299), "24:5");
        Bench other = ready("{'items':{'allOf':" + list(12, "false") + "},'maxItems':1}", list(23, "0"));
        other.validate();
        Bench.same("301 are 300", other.judge.pairs(), 300);
        Bench.same("maxItems is the further one", pair(other, 0) + " " + pair(other, 1), "0:2 1:4");
        Bench before = ready("{'maxItems':1,'items':{'allOf':" + list(12, "false") + "}}", list(23, "0"));
        before.validate();
        Bench.same("items is the further one", pair(before, 0) + " " + pair(before, 1), "0:2 1:6");
        Bench twice = ready("{'$ref':'#/$defs/a','allOf':[{'$ref':'#/$defs/a'}],'$defs':{'a':{'items':{'allOf':" + list(12,
            "false") + "}}}}", list(22, "0"));
        twice.validate();
        Bench.same("found twice, kept once: 22 * 13 + 1, and 3", twice.judge.pairs(), 290);
    }

    private static void threeHundredAtATime() {
        String many = "{'items':{'allOf':" + list(12, "false") + "}}";
        Bench bench = ready("{'anyOf':[" + many + ",true]," + many.substring(1), list(23, "0"));
        bench.validate();
        Bench.same("room comes back when anyOf is good", bench.judge.pairs(), 300);
        bench = ready("{'anyOf':[" + many + ",false]," + many.substring(1), list(23, "0"));
        bench.validate();
        Bench.same("no room for anything else", bench.judge.pairs() + " " + pair(bench, 0) + " " + pair(bench, 1), "300 0:5 1:7");
        bench = ready("{'not':" + many + "," + many.substring(1), list(23, "0"));
        bench.validate();
        Bench.same("silence needs no room", bench.judge.pairs(), 300);
        bench = ready("{'oneOf':[{'anyOf':[" + many + "," + many + "]},true],'maxItems':0}", list(23, "0"));
        Bench.same("also of one in the other", bench.validate(), "bad 0:42");
    }

    private static void theOrderOfWhatIsKept() {
        // 299 by the first KEYWORD, so that of the next one only the first PAIR is kept
        String first = "'$ref':'#/$defs/f'";
        String defs = "'$defs':{'f':{'prefixItems':[{'allOf':" + list(59, "false") + "},{'allOf':" + list(59, "false")
            + "},{'allOf':" + list(59, "false") + "},{'allOf':"
            + list(59, "false") + "},{'allOf':" + list(56, "false") + "}]}}";
        // 4 * 60 + 57 = 297, prefixItems, $ref: 299
        Bench bench = ready("{" + first + "," + defs + "}", "[0,0,0,0,0]");
        bench.validate();
        Bench.same("299", bench.judge.pairs(), 299);
        bench = ready("{" + first + ",'maxItems':0,'minItems':9," + defs + "}", "[0,0,0,0,0]");
        bench.validate();
        Bench.same("in the order of the TEXT", bench.judge.pairs() + " " + pair(bench, 0) + " " + pair(bench, 1), "300 0:2 0:4");
        bench = ready("{" + first + ",'unevaluatedItems':false,'maxItems':0," + defs + "}", "[0,0,0,0,0,0]");
        bench.validate();
        Bench.same("unevaluatedItems is last", pair(bench, 1) + " " + pair(bench, 299).startsWith("6:"), "0:6 false");
        bench = ready("{" + first + ",'allOf':[{'minItems':8},{'minItems':9}]," + defs + "}", "[0,0,0,0,0]");
        bench.validate();
        Bench.same("its own comes last", pair(bench, 1), "0:7");
        String object = "{'properties':{'x':{'prefixItems':[{'allOf':" + list(59, "false") + "},{'allOf':" + list(59, "false")
            + "},{'allOf':" + list(59, "false") + "},{'allOf':"
            + list(59, "false") + "},{'allOf':" + list(57, "false") + "}]},'b':false,'a':false}}";
        bench = ready(object, "{'a':1,'b':1,'x':[0,0,0,0,0]}");
        bench.validate();
        Bench.same("in the order of the SCHEMA's names", bench.judge.pairs() + " " + pair(bench, 0).startsWith("4:"), "300 true");
        String names = object.replace("'properties'", "'patternProperties'").replace("'b':false,'a':false", "'b|a':false");
        bench = ready(names, "{'a':1,'b':1,'x':[0,0,0,0,0]}");
        bench.validate();
        Bench.same("then of v's", bench.judge.pairs() + " " + pair(bench, 0).startsWith("2:"), "300 true");
    }

    /** A SCHEMA by which n arrays in one another are 3 * n - 2 deep. */
    private static final String THREE = "{'items':{'$ref':'#/$defs/a'},'$defs':{'a':{'$ref':'#'}}}";

    private static String nested(int n, String inner) {
        return Bench.times(n, "[") + inner + Bench.times(n, "]");
    }

    private static void hundredDeep() {
        Bench bench = ready(THREE, nested(34, ""));
        Bench.same("100 deep", bench.validate() + " " + bench.judge.count(2) + " " + bench.judge.count(3), "good 100 100");
        bench.instance(nested(34, "1"));
        Bench.same("101 deep", bench.validate() + " " + bench.judge.count(2) + " " + bench.judge.count(3), "limit 101 100");
        bench.instance(nested(33, "[],[]"));
        Bench.same("twice 100 deep", bench.validate() + " " + bench.judge.count(2) + " " + bench.judge.count(3), "good 103 100");
        bench.instance(nested(33, "[],[1]"));
        Bench.same("the second one", bench.validate() + " " + bench.judge.count(2) + " " + bench.judge.count(3), "limit 104 100");
        bench.instance("[]");
        Bench.same("once more", bench.validate() + " " + bench.judge.count(2) + " " + bench.judge.count(3), "good 1 1");
    }

    private static void tooDeepAnywhere() {
        String[] deeper = {"'items':false", "'items':true", "'prefixItems':[true]", "'contains':true", "'unevaluatedItems':true",
            "'not':true", "'if':true", "'allOf':[true]",
            "'anyOf':[true]", "'oneOf':[false]", "'$ref':'#/$defs/t'"};
        for (String keyword : deeper) {
            String schema = "{'items':{'$ref':'#/$defs/a'},'properties':{'x':X},'$defs':{'t':true,'a':{'$ref':'#'}}}";
            // 32 arrays: the object is 97 deep, x is 98 deep
            Bench bench = ready(schema.replace("X", "{'allOf':[{" + keyword + "}]}"), nested(32, "{'x':[1]}"));
            Bench.same("100 deep, " + keyword, bench.validate().startsWith("limit") + " " + bench.judge.count(3), "false 100");
            bench = ready(schema.replace("X", "{'allOf':[{'allOf':[{" + keyword + "}]}]}"), nested(32, "{'x':[1]}"));
            Bench.same("101 deep, " + keyword, bench.validate() + " " + bench.judge.count(3), "limit 100");
        }
        String[] others = {"'properties':{'a':true}", "'patternProperties':{'':true}", "'additionalProperties':true",
            "'propertyNames':true", "'unevaluatedProperties':true",
            "'dependentSchemas':{'a':true}"};
        for (String keyword : others) {
            String schema = "{'items':{'$ref':'#/$defs/a'},'properties':{'x':X},'$defs':{'a':{'$ref':'#'}}}";
            Bench bench = ready(schema.replace("X", "{'allOf':[{" + keyword + "}]}"), nested(32, "{'x':{'a':1}}"));
            Bench.same("100 deep, " + keyword, bench.validate() + " " + bench.judge.count(3), "good 100");
            bench = ready(schema.replace("X", "{'allOf':[{'allOf':[{" + keyword + "}]}]}"), nested(32, "{'x':{'a':1}}"));
            Bench.same("101 deep, " + keyword, bench.validate() + " " + bench.judge.count(3), "limit 100");
        }
    }

    private static void counted(String more, String due) {
        // 51 elements: 1 + 51 * 392 = 19,993 SCHEMAS, 6 deep
        String schema = "{'$defs':{'a':{'$anchor':'a','allOf':" + list(10, "{'$ref':'#b'}") + "},'b':{'$anchor':'b','allOf':"
            + list(37, "true") + "}},'items':{'$ref':'#a'}," + more + "}";
        Bench bench = ready(schema, list(51, "1"));
        Bench.same(more, bench.validate() + " " + bench.judge.count(2) + " " + bench.judge.count(3), due);
    }

    private static void twentyThousand() {
        counted("'allOf':" + list(7, "true"), "good 20000 6");
        counted("'allOf':" + list(8, "true"), "limit 20001 6");
        counted("'anyOf':" + list(7, "true"), "good 20000 6");
        counted("'anyOf':" + list(8, "true"), "limit 20001 6");
        counted("'anyOf':[true" + Bench.times(7, ",false") + "]", "limit 20001 6");
        counted("'not':{'allOf':" + list(6, "false") + "}", "good 20000 6");
        counted("'not':{'allOf':" + list(7, "false") + "}", "limit 20001 6");
        counted("'if':false,'then':false,'else':{'allOf':" + list(5, "true") + "}", "good 20000 6");
        counted("'if':false,'then':false,'else':{'allOf':" + list(6, "true") + "}", "limit 20001 6");
        counted("'maxItems':0,'allOf':" + list(8, "false"), "limit 20001 6");
        counted("'contains':true", "limit 20001 6");
        counted("'unevaluatedItems':false,'allOf':" + list(7, "true"), "good 20000 6");
    }
}
