/** Promises 7, 8 and 9 and Terms 3: what is good, what is EVALUATED, and which PAIRS are told. */
public final class EvaluateTest {
    public static void main(String[] args) {
        plain();
        strings();
        arrays();
        objects();
        inPlace();
        conditions();
        contains();
        properties();
        evaluatedMembers();
        evaluatedElements();
        pairsOfAnyOf();
        references();
        Bench.finish();
    }

    private static void judges(String schema, String instance, String due) {
        Bench.judges(schema.replace('\'', '"'), instance.replace('\'', '"'), due);
    }

    private static void good(String schema, String... instances) {
        for (String instance : instances) {
            judges(schema, instance, "good");
        }
    }

    private static void bad(String schema, String due, String... instances) {
        for (String instance : instances) {
            judges(schema, instance, "bad " + due);
        }
    }

    private static void plain() {
        good("true", "null", "{}", "[1]");
        bad("false", "0:0", "null", "{}", "[1]");
        good("{}", "1");
        good("{'x':false,'definitions':{'a':false},'$defs':{'a':false},'$anchor':'a','then':false,'else':false}", "1");
        good("{'type':'null'}", "null");
        good("{'type':'boolean'}", "true", "false");
        good("{'type':'object'}", "{}");
        good("{'type':'array'}", "[]");
        good("{'type':'string'}", "''");
        good("{'type':'number'}", "1", "1.5", "-1e-9");
        good("{'type':'integer'}", "1", "1.0", "-0", "1e3", "12.50e1", "0.0");
        bad("{'type':'integer'}", "0:2", "1.5", "1e-1", "'1'", "12.55e1");
        bad("{'type':'null'}", "0:2", "false", "0", "''", "[]", "{}");
        good("{'type':['string','null']}", "null", "'a'");
        bad("{'type':['string','null']}", "0:2", "1", "true", "[]", "{}");
        good("{'const':{'a':[1,2.0]}}", "{'a':[1.0,2]}");
        bad("{'const':{'a':[1,2.0]}}", "0:2", "{'a':[2,1]}", "{}", "null");
        good("{'enum':[1,'a',null]}", "1.0", "'\\u0061'", "null");
        bad("{'enum':[1,'a',null]}", "0:2", "2", "'b'", "false");
        bad("{'enum':[]}", "0:2", "null");
        good("{'maximum':2,'minimum':1,'exclusiveMaximum':3,'exclusiveMinimum':0,'multipleOf':0.5}", "1", "1.5", "2", "'x'", "[]");
        bad("{'maximum':2,'minimum':1,'exclusiveMaximum':3,'exclusiveMinimum':0,'multipleOf':0.5}", "0:2 0:6", "3");
        bad("{'maximum':2,'minimum':1,'exclusiveMaximum':3,'exclusiveMinimum':0,'multipleOf':0.5}", "0:4 0:8", "0", "-1");
        bad("{'maximum':2,'minimum':1,'exclusiveMaximum':3,'exclusiveMinimum':0,'multipleOf':0.5}", "0:10", "1.2");
    }

    private static void strings() {
        good("{'maxLength':2,'minLength':1}", "'a'", "'\ud83d\ude00\u00e9'", "'\\ud83d\\ude00\\ud83d\\ude00'", "123", "[1,2,3]");
        bad("{'maxLength':2,'minLength':1}", "0:2", "'abc'");
        bad("{'maxLength':2,'minLength':1}", "0:4", "''");
        good("{'pattern':'b'}", "'abc'", "1");
        bad("{'pattern':'^b'}", "0:2", "'abc'");
    }

    private static void arrays() {
        good("{'maxItems':2,'minItems':1,'uniqueItems':true}", "[1]", "[1,2]", "'abc'", "{}");
        bad("{'maxItems':2,'minItems':1,'uniqueItems':true}", "0:4", "[]");
        bad("{'maxItems':2,'minItems':1,'uniqueItems':true}", "0:2", "[1,2,3]");
        bad("{'maxItems':2,'minItems':1,'uniqueItems':true}", "0:2 0:6", "[1,2,1.0]");
        good("{'uniqueItems':false}", "[1,1]");
        bad("{'uniqueItems':true}", "0:2", "[0,1,1]", "[0,1,0]", "[0,0,1]", "[0,1,2,3,2]");
        good("{'uniqueItems':true}", "[1,true,'1',[1],{'a':1},null,false,0]");
        bad("{'uniqueItems':true}", "0:2", "[{'a':1,'b':2},{'b':2,'a':1}]");
        good("{'prefixItems':[{'type':'null'},true,false]}", "[]", "[null]", "[null,1]", "{}");
        bad("{'prefixItems':[{'type':'null'},true,false]}", "0:2 1:5 3:7", "[1,2,3,4]");
        good("{'items':{'type':'null'}}", "[]", "[null,null]", "{'a':1}");
        bad("{'items':{'type':'null'}}", "0:2 2:4 3:4", "[null,1,2,null]");
        bad("{'items':false}", "0:2 1:2 2:2", "[1,2]");
        good("{'prefixItems':[true],'items':false}", "[1]", "[]");
        bad("{'items':false,'prefixItems':[true]}", "0:2 2:2", "[1,2]");
    }

    private static void objects() {
        good("{'maxProperties':2,'minProperties':1}", "{'a':1}", "[]");
        bad("{'maxProperties':2,'minProperties':1}", "0:4", "{}");
        bad("{'maxProperties':2,'minProperties':1}", "0:2", "{'a':1,'b':1,'c':1}");
        good("{'required':[]}", "{}");
        good("{'required':['a','']}", "{'':1,'b':1,'a':1}", "[]");
        bad("{'required':['a','']}", "0:2", "{'a':1}", "{'':1}", "{}");
        good("{'dependentRequired':{'a':['b','c'],'x':['x']}}", "{}", "{'b':1}", "{'a':1,'b':1,'c':1}", "{'x':1}", "null");
        bad("{'dependentRequired':{'a':['b','c'],'x':['y']}}", "0:2", "{'a':1,'b':1}", "{'x':1}");
        good("{'propertyNames':{'maxLength':1}}", "{}", "{'a':1,'b':2}", "['abc']");
        bad("{'propertyNames':{'maxLength':1}}", "0:2 1:4 5:4", "{'ab':1,'c':1,'de':1}");
        bad("{'propertyNames':false}", "0:2 1:2", "{'a':1}");
        bad("{'propertyNames':{'type':'number'}}", "0:2 1:4", "{'a':1}");
    }

    private static void inPlace() {
        good("{'allOf':[true,{'minimum':1},{'maximum':3}]}", "2");
        bad("{'allOf':[true,{'minimum':1},{'maximum':3}]}", "0:2 0:6", "0");
        bad("{'allOf':[false,{'minimum':1},false]}", "0:2 0:3 0:6 0:7", "0");
        good("{'anyOf':[{'minimum':1},{'maximum':-1}]}", "2", "-2");
        bad("{'anyOf':[{'minimum':1},{'maximum':-1}]}", "0:2 0:5 0:8", "0");
        good("{'oneOf':[{'minimum':1},{'maximum':-1}]}", "2");
        bad("{'oneOf':[{'minimum':1},{'maximum':-1}]}", "0:2 0:5 0:8", "0");
        bad("{'oneOf':[true,false,true]}", "0:2 0:4", "0");
        good("{'not':{'minimum':1}}", "0");
        bad("{'not':{'minimum':1}}", "0:2", "1", "'x'");
        good("{'not':false}", "0");
        bad("{'not':true}", "0:2", "0");
        good("{'not':{'not':{'type':'null'}}}", "null");
        good("{'dependentSchemas':{'a':false,'b':{'required':['c']}}}", "{}", "{'b':1,'c':1}", "[]", "'a'");
        bad("{'dependentSchemas':{'a':false,'b':{'required':['c']}}}", "0:2 0:4 0:8", "{'a':1,'b':1}");
    }

    private static void conditions() {
        good("{'if':{'minimum':1},'then':{'maximum':5},'else':{'multipleOf':2}}", "3", "-4");
        bad("{'if':{'minimum':1},'then':{'maximum':5},'else':{'multipleOf':2}}", "0:6 0:8", "7");
        bad("{'if':{'minimum':1},'then':{'maximum':5},'else':{'multipleOf':2}}", "0:10 0:12", "-3");
        bad("{'else':false,'then':{'maximum':5},'if':{'minimum':1}}", "0:2", "0");
        good("{'if':false}", "1");
        good("{'if':true,'else':false}", "1");
        good("{'if':false,'then':false}", "1");
        good("{'then':false,'else':false}", "1");
    }

    private static void contains() {
        good("{'contains':{'type':'null'}}", "[1,null]", "{}");
        bad("{'contains':{'type':'null'}}", "0:2", "[]", "[1,2]");
        good("{'contains':{'type':'null'},'minContains':2,'maxContains':3}", "[null,null]", "[null,null,1,null]");
        bad("{'contains':{'type':'null'},'minContains':2,'maxContains':3}", "0:2", "[null]", "[null,null,null,null]", "[]");
        good("{'contains':false,'minContains':0}", "[]", "[1]");
        bad("{'contains':true,'maxContains':0,'minContains':0}", "0:2", "[1]");
        good("{'minContains':5,'maxContains':0}", "[1]");
    }

    private static void properties() {
        good("{'properties':{'a':{'type':'null'},'b':false}}", "{}", "{'a':null}", "{'c':1}", "[1]");
        bad("{'properties':{'a':{'type':'null'},'b':false}}", "0:2 2:8 4:6", "{'b':1,'a':1}");
        good("{'patternProperties':{'^a':{'type':'null'},'b$':{'type':['null','string']}}}", "{}", "{'ab':null,'xb':'x','c':1}");
        bad("{'patternProperties':{'^a':{'type':'null'},'b$':{'type':'string'}}}", "0:2 2:6 2:10 4:10", "{'ab':1,'b':1,'ac':null}");
        good("{'properties':{'a':true},'patternProperties':{'^x':true},'additionalProperties':false}", "{'a':1,'x1':2}");
        bad("{'additionalProperties':false,'properties':{'a':true},'patternProperties':{'^x':true}}", "0:2 4:2 6:2",
            "{'a':1,'b':1,'':1,'x':1}");
        bad("{'additionalProperties':{'type':'null'}}", "0:2 4:4", "{'a':null,'b':1}");
        // Only what stands beside it counts.
        bad("{'allOf':[{'properties':{'a':true}}],'additionalProperties':false}", "0:9 2:9", "{'a':1}");
    }

    private static void evaluatedMembers() {
        String last = ",'unevaluatedProperties':false}";
        good("{'properties':{'a':true},'patternProperties':{'^x':true}" + last, "{'a':1,'x':1}", "{}", "[1]");
        good("{'additionalProperties':true" + last, "{'a':1,'x':1}");
        bad("{'properties':{'a':true}" + last, "0:6 4:6", "{'a':1,'b':1}");
        bad("{'propertyNames':true" + last, "0:4 2:4", "{'a':1}");
        bad("{'required':['a']" + last, "0:5 2:5", "{'a':1}");
        // What FAILS in the SCHEMA itself is EVALUATED all the same.
        bad("{'properties':{'a':false}" + last, "0:2 2:4", "{'a':1}");
        good("{'allOf':[{'properties':{'a':true}},{'properties':{'b':true}}]" + last, "{'a':1,'b':1}");
        good("{'anyOf':[{'properties':{'a':true},'required':['a']},{'properties':{'b':true},'required':['b']}]" + last,
            "{'a':1,'b':1}", "{'a':1}");
        bad("{'anyOf':[{'properties':{'a':true},'required':['a']},{'properties':{'b':true},'required':['c']}]" + last,
            "0:20 4:20", "{'a':1,'b':1}");
        good("{'oneOf':[{'properties':{'a':true},'required':['a']},false]" + last, "{'a':1}");
        // oneOf FAILS, but both SCHEMAS were good.
        bad("{'oneOf':[{'properties':{'a':true}},{'properties':{'b':true}}]" + last, "0:2", "{'a':1,'b':1}");
        // allOf FAILS, but one of its SCHEMAS was good.
        bad("{'allOf':[{'properties':{'a':true}},{'properties':{'b':true},'maxProperties':1}]" + last, "0:2 0:14 0:16 4:16",
            "{'a':1,'b':1}");
        bad("{'not':{'properties':{'a':true},'required':['b']}" + last, "0:11 2:11", "{'a':1}");
        bad("{'not':{'not':{'properties':{'a':true}}}" + last, "0:10 2:10", "{'a':1}");
        good("{'if':{'properties':{'a':{'const':1}},'required':['a']},'then':{'properties':{'b':true}},'else':{'properties':{'c':true}}"
            + last, "{'a':1,'b':1}", "{'c':1}");
        bad("{'if':{'properties':{'a':{'const':1}}}" + last, "0:10 2:10", "{'a':2}");
        good("{'if':{'properties':{'a':{'const':1}}}" + last, "{'a':1}");
        good("{'dependentSchemas':{'a':{'properties':{'b':true,'a':true}}}" + last, "{'a':1,'b':1}");
        bad("{'dependentSchemas':{'a':{'properties':{'b':true}}}" + last, "0:10 2:10", "{'b':1}");
        good("{'$ref':'#/$defs/x','$defs':{'x':{'properties':{'a':true}}}" + last, "{'a':1}");
        good("{'allOf':[{'unevaluatedProperties':true}]" + last, "{'a':1}");
        // They come last, wherever they stand.
        good("{'unevaluatedProperties':false,'properties':{'a':true}}", "{'a':1}");
        bad("{'unevaluatedProperties':{'type':'null'}}", "0:2 4:4", "{'a':null,'b':1}");
        // What a member's SCHEMA has EVALUATED is not v's.
        bad("{'properties':{'a':{'properties':{'b':true}}}" + last, "0:10 6:10", "{'a':{'b':1},'b':1}");
        // A SCHEMA does not see what is beside it.
        bad("{'properties':{'a':true},'allOf':[{'unevaluatedProperties':false}]}", "0:6 0:9 2:9", "{'a':1}");
    }

    private static void evaluatedElements() {
        String last = ",'unevaluatedItems':false}";
        good("{'prefixItems':[true,true]" + last, "[1,2]", "[1]", "{'a':1}");
        bad("{'prefixItems':[true,true]" + last, "0:6 3:6", "[1,2,3]");
        good("{'items':true" + last, "[1,2]");
        good("{'contains':{'type':'null'}" + last, "[null,null]");
        bad("{'contains':{'type':'null'}" + last, "0:6 2:6", "[null,1]");
        // contains FAILS, and what was good for it is EVALUATED.
        bad("{'contains':true,'maxContains':1" + last, "0:2", "[1,2]");
        bad("{'items':{'type':'null'}" + last, "0:2 1:4", "[1]");
        bad("{'minItems':1" + last, "0:4 1:4", "[1]");
        good("{'allOf':[{'prefixItems':[true]},{'contains':{'const':2}}]" + last, "[1,2]");
        bad("{'anyOf':[{'prefixItems':[true,false]},true]" + last, "0:10 1:10 2:10", "[1,2]");
        good("{'unevaluatedItems':{'type':'null'}}", "[null]");
        bad("{'allOf':[{'prefixItems':[true],'unevaluatedItems':{'type':'null'}}]" + last, "0:2 0:8 0:12 1:12 2:10 2:12", "[1,2]");
        good("{'allOf':[{'prefixItems':[true],'unevaluatedItems':{'type':'null'}}]" + last, "[1,null]");
    }

    private static void pairsOfAnyOf() {
        // What a good anyOf found is forgotten, what stood before it stays.
        bad("{'minimum':5,'anyOf':[{'minimum':7},true]}", "0:2", "1");
        bad("{'anyOf':[{'anyOf':[false,{'type':'null'}]},{'oneOf':[true,{'minimum':3}]},false],'type':'null'}", "0:19", "1");
        bad("{'allOf':[{'$ref':'#/$defs/m'},{'anyOf':[{'$ref':'#/$defs/m'},true]}],'$defs':{'m':{'minimum':9}}}", "0:2 0:5 0:18", "1");
        bad("{'not':{'anyOf':[true,false]}}", "0:2", "1");
        bad("{'if':false,'else':{'anyOf':[false]}}", "0:4 0:6 0:7", "1");
        // Sorted by the INSTANCE's VALUE, then by the KEYWORD's; each once.
        bad("{'allOf':[{'items':{'$ref':'#/$defs/m'}},{'items':{'$ref':'#/$defs/m'}}],'$defs':{'m':{'minimum':9}}}",
            "0:2 0:5 0:10 1:7 1:12 1:18 2:7 2:12 2:18", "[1,2]");
    }

    private static void references() {
        String node = "{'$defs':{'node':{'type':'object','properties':{'next':{'$ref':'#/$defs/node'},'v':{'multipleOf':0.01}}}},"
            + "'$ref':'#/$defs/node'}";
        good(node, "{'v':19.99,'next':{'v':1e3,'next':{}}}");
        bad(node, "0:8 0:18 2:16 4:8 4:12 6:6 6:12", "{'v':0.001,'next':{'next':[]}}");
        bad("{'$ref':'#x','$defs':{'a':{'$anchor':'x','type':'null'}}}", "0:2 0:10", "1");
        bad("{'items':{'$ref':'#'},'maxItems':2}", "0:2 1:4 1:6", "[[1,2,3]]");
        bad("{'$ref':'#/$defs/a','$defs':{'a':false}}", "0:2 0:6", "1");
        bad("{'$ref':'#/allOf/1','allOf':[true,{'const':1}]}", "0:2 0:4 0:8", "2");
    }
}
