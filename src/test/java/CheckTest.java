/** Promises 5, 6 and 14 and the FAULTS of Terms 2. */
public final class CheckTest {
    public static void main(String[] args) {
        wholes();
        withSchemas();
        withNumbers();
        withStrings();
        withTypes();
        withNames();
        refused();
        anchors();
        patterns();
        least();
        references();
        encodedReferences();
        circles();
        Bench.finish();
    }

    private static void good(String... schemas) {
        for (String schema : schemas) {
            Bench.checks(schema, "0 at -1");
        }
    }

    private static void faults(String due, String... schemas) {
        for (String schema : schemas) {
            Bench.checks(schema, due);
        }
    }

    private static void keyword(String name, String values, String due) {
        for (String value : values.split(" ")) {
            Bench.checks("{\"" + name + "\":" + value + "}", due);
        }
    }

    private static void wholes() {
        good("true", "false", "{}", "{\"x\":5,\"Type\":1,\"definitions\":7,\"\":1,\"$comment\":1,\"typ\":1,\"types\":1}");
        faults("1 at 0", "null", "1", "\"a\"", "[]", "[{}]");
    }

    private static void withSchemas() {
        String[] one = {"not", "if", "then", "else", "items", "contains", "additionalProperties", "propertyNames",
            "unevaluatedItems", "unevaluatedProperties"};
        for (String name : one) {
            keyword(name, "true false {} {\"not\":true}", "0 at -1");
            keyword(name, "null 1 \"a\" [] [{}]", "1 at 2");
            keyword(name, "{\"not\":1}", "1 at 4");
        }
        String[] lists = {"allOf", "anyOf", "oneOf", "prefixItems"};
        for (String name : lists) {
            keyword(name, "[true] [{},false]", "0 at -1");
            keyword(name, "[] {} true null", "1 at 2");
            keyword(name, "[true,1,2]", "1 at 4");
            keyword(name, "[{\"not\":[]}]", "1 at 5");
        }
        String[] maps = {"$defs", "properties", "patternProperties", "dependentSchemas"};
        for (String name : maps) {
            keyword(name, "{} {\"a\":true} {\"a\":{},\"b\":false}", "0 at -1");
            keyword(name, "[] true null", "1 at 2");
            keyword(name, "{\"a\":true,\"b\":1}", "1 at 6");
            keyword(name, "{\"a\":{\"if\":0}}", "1 at 6");
        }
        // What no KEYWORD has is no SCHEMA, and not looked at.
        good("{\"x\":{\"not\":1}}", "{\"const\":{\"not\":1}}", "{\"enum\":[{\"not\":1}]}", "{\"properties\":{\"not\":true}}");
    }

    private static void withNumbers() {
        for (String name : new String[] {"maximum", "exclusiveMaximum", "minimum", "exclusiveMinimum"}) {
            keyword(name, "0 -1 1.5 1e999", "0 at -1");
            keyword(name, "null \"1\" [1] true", "1 at 2");
        }
        keyword("multipleOf", "1 0.1 1e-999", "0 at -1");
        keyword("multipleOf", "0 -0 0.0 -1 null \"1\"", "1 at 2");
        String[] counts = {"maxLength", "minLength", "maxItems", "minItems", "maxContains", "minContains", "maxProperties",
            "minProperties"};
        for (String name : counts) {
            keyword(name, "0 -0 1 1.0 10e-1 1000000 1e6 0.1e7 0e999", "0 at -1");
            keyword(name, "-1 0.5 1000001 1e7 1000000.5 1e999 1e-999 null \"1\" []", "1 at 2");
        }
        keyword("uniqueItems", "true false", "0 at -1");
        keyword("uniqueItems", "null 0 \"true\"", "1 at 2");
    }

    private static void withStrings() {
        keyword("$ref", "1 null true [] {}", "1 at 2");
        keyword("pattern", "1 null true [] {}", "1 at 2");
        keyword("$anchor", "\"a\" \"z\" \"A\" \"_\" \"Z0a9zAZ-.\" \"a.b-c_d\"", "0 at -1");
        keyword("$anchor", "\"\" \"1a\" \"-a\" \".a\" \"a/b\" \"\u00e9\" \"a%\" 1 null", "1 at 2");
        good("{\"const\":null}", "{\"const\":[1,{}]}", "{\"enum\":[]}", "{\"enum\":[1,1]}");
        keyword("enum", "{} null 1 \"a\"", "1 at 2");
    }

    private static void withTypes() {
        for (String name : "null boolean object array number string integer".split(" ")) {
            keyword("type", "\"" + name + "\" [\"" + name + "\"]", "0 at -1");
        }
        good("{\"type\":[\"null\",\"boolean\",\"object\",\"array\",\"number\",\"string\",\"integer\"]}");
        keyword("type", "\"Null\" \"any\" \"\" null 1 {} []", "1 at 2");
        keyword("type", "[\"null\",\"any\"] [\"null\",1] [\"null\",\"null\"]", "1 at 4");
        keyword("type", "[\"integer\",\"null\",\"integer\",\"null\"]", "1 at 5");
        keyword("type", "[\"integer\",\"null\",\"null\"]", "1 at 5");
    }

    private static void withNames() {
        keyword("required", "[] [\"a\"] [\"a\",\"b\"]", "0 at -1");
        keyword("required", "{} null \"a\"", "1 at 2");
        keyword("required", "[\"a\",1] [\"a\",\"\\u0061\"] [\"a\",[\"a\"]]", "1 at 4");
        keyword("dependentRequired", "{} {\"a\":[]} {\"a\":[\"b\"],\"b\":[\"b\",\"a\"]}", "0 at -1");
        keyword("dependentRequired", "[] null", "1 at 2");
        keyword("required", "[\"a\",\"b\",\"b\"]", "1 at 5");
        keyword("dependentRequired", "{\"a\":1} {\"a\":{}}", "1 at 4");
        keyword("dependentRequired", "{\"a\":[],\"b\":[],\"c\":1}", "1 at 8");
        keyword("dependentRequired", "{\"a\":[\"b\",\"b\"]} {\"a\":[\"b\",null]}", "1 at 6");
    }

    private static void refused() {
        for (String name : new String[] {"$id", "$dynamicRef", "$dynamicAnchor", "$vocabulary"}) {
            keyword(name, "\"a\" null {}", "2 at 2");
        }
        good("{\"x\":{\"$id\":\"a\"}}", "{\"const\":{\"$id\":\"a\"}}", "{\"properties\":{\"$id\":true}}");
        faults("2 at 4", "{\"not\":{\"$id\":1}}");
    }

    private static void anchors() {
        good("{\"$anchor\":\"a\",\"not\":{\"$anchor\":\"b\"}}", "{\"$anchor\":\"a\",\"const\":{\"$anchor\":\"a\"}}");
        faults("3 at 6", "{\"$anchor\":\"a\",\"not\":{\"$anchor\":\"a\"}}");
        // The one that stands later is there already, though its SCHEMA begins before.
        faults("3 at 6", "{\"not\":{\"$anchor\":\"a\"},\"$anchor\":\"a\"}");
        faults("3 at 8", "{\"allOf\":[{\"$anchor\":\"a\"},{\"$anchor\":\"a\"},{\"$anchor\":\"a\"}]}");
        faults("1 at 2", "{\"$anchor\":\"1\",\"not\":{\"$anchor\":\"1\"}}");
    }

    private static void patterns() {
        faults("4 at 2", "{\"pattern\":\"(\"}", "{\"pattern\":\"\\\\\"}", "{\"pattern\":\"a{51}\"}");
        good("{\"pattern\":\"\"}", "{\"patternProperties\":{\"^a\":{},\"\":true}}");
        faults("4 at 6", "{\"patternProperties\":{\"a\":true,\"(\":true}}");
        faults("1 at 4", "{\"patternProperties\":{\"(\":1}}");
        good("{\"properties\":{\"(\":true}}");
    }

    private static void least() {
        faults("4 at 2", "{\"pattern\":\"(a\",\"minLength\":-1}");
        faults("1 at 2", "{\"minLength\":-1,\"pattern\":\"(a\"}");
        faults("2 at 5", "{\"anyOf\":[{\"$id\":1},5]}");
        faults("1 at 3", "{\"anyOf\":[5,{\"$id\":1}]}");
        faults("1 at 4", "{\"allOf\":[{},7],\"$id\":1}");
        // A VALUE inside one KEYWORD comes before the next KEYWORD's, though the next one's SCHEMA begins before.
        faults("2 at 4", "{\"not\":{\"$id\":2},\"type\":4}");
        faults("1 at 4", "{\"not\":{\"type\":2},\"$id\":4}");
        faults("1 at 6", "{\"$ref\":\"#/x\",\"$defs\":{\"a\":5}}");
        faults("5 at 6", "{\"$ref\":\"#\",\"not\":{\"$ref\":\"#/x\"}}");
        faults("5 at 2", "{\"$ref\":\"#/x\",\"not\":{\"$ref\":\"#/y\"}}");
    }

    private static final String PLACES = "{\"properties\":{\"r\":{\"$ref\":\"REF\"}},\"$defs\":{\"a\":{},\"a/b\":true,\"a~b\":false,"
        + "\"\":{\"x\":{\"not\":{}}},\"\u00e9\":{},\"%41\":{},\"%zz\":{},\"100%\":{},\"0\":{},\"~1\":{}},"
        + "\"allOf\":[{},{\"not\":{\"$anchor\":\"deep\"}}],\"const\":{\"a\":{}},\"x\":{\"y\":{}},\"$anchor\":\"top\",\"enum\":[{}]}";

    private static void references() {
        String[] lead = {"#", "#top", "#deep", "#/$defs/a", "#/$defs/a~1b", "#/$defs/a~0b", "#/$defs/", "#/$defs/\u00e9",
            "#/$defs/0", "#/$defs/~01", "#/allOf/0", "#/allOf/1", "#/allOf/1/not"};
        String[] lost = {"", "a", "top", "/", "#/", "#x", "#Top", "#/top", "# ", "##", "#top/", "#/$defs", "#/$defs/b", "#/properties",
            "#/allOf", "#/allOf/2", "#/allOf/00", "#/allOf/01", "#/allOf/-1", "#/allOf/+1", "#/allOf/", "#/allOf/1x", "#/allOf/0/",
            "#/allOf/99999999999999999999", "#/const", "#/const/a", "#/x", "#/x/y", "#/enum/0", "#/$anchor", "#/$anchor/0",
            "#/$defs/a~", "#/$defs/a~2b", "#/$defs/a~~1b", "#/$defs/a/b", "#/$defs//x", "#/$defs/~1", "http://x/#", "./#", "#/allOf/1/not/"};
        leads(lead, "0 at -1");
        leads(lost, "5 at 6");
        twins("a/b", "a~1b", "a~0b");
        twins("a~b", "a~0b", "a~1b");
        twins("~1", "~01", "~1");
        twins("/", "~1", "~01");
        twins("%4z%z4%", "%4z%z4%", "%4z%z4");
        String eleven = "{\"properties\":{\"r\":{\"$ref\":\"#/allOf/REF\"}},\"allOf\":[{},{},{},{},{},{},{},{},{},{},{}]}";
        Bench.checks(eleven.replace("REF", "10"), "0 at -1");
        Bench.checks(eleven.replace("REF", "9"), "0 at -1");
        Bench.checks(eleven.replace("REF", "11"), "5 at 6");
        Bench.checks(eleven.replace("REF", "010"), "5 at 6");
    }

    /** Of two ways to write a name one leads to it. */
    private static void twins(String name, String lead, String lost) {
        String schema = "{\"properties\":{\"r\":{\"$ref\":\"#/$defs/REF\"}},\"$defs\":{\"" + name + "\":{}}}";
        Bench.checks(schema.replace("REF", lead), "0 at -1");
        Bench.checks(schema.replace("REF", lost), "5 at 6");
    }

    private static void leads(String[] references, String due) {
        for (String reference : references) {
            Bench.checks(PLACES.replace("REF", reference), due);
        }
    }

    private static void encodedReferences() {
        String[] lead = {"#/$defs/%61", "#/%24defs/a", "#/$defs%2Fa", "#/$defs/a%7E1b", "#/$defs/a~%31b", "#/$defs/%C3%A9", "#/$defs/%c3%a9",
            "#/$defs/%2541", "#/$defs/%zz", "#/$defs/%25zz", "#/$defs/100%", "#/$defs/100%25", "#%74op", "#/allOf/%30"};
        String[] lost = {"#/$defs/%41", "#/$defs/a%2Fb", "#/$defs/%C3", "#/$defs/%C3%", "#/$defs/%A9", "#/$defs/%C3\u00e9", "#/$defs/%FF",
            "#/$defs/%ED%A0%80", "#/$defs/%C0%80", "#/$defs/%E9", "#/$defs/%4", "#/allOf/%30%30", "#/$defs/a%"};
        leads(lead, "0 at -1");
        leads(lost, "5 at 6");
    }

    private static void circles() {
        faults("6 at 0", "{\"$ref\":\"#\"}", "{\"x\":1,\"$ref\":\"#\"}");
        for (String name : new String[] {"not", "if", "then", "else"}) {
            keyword(name, "{\"$ref\":\"#\"}", "6 at 0");
        }
        for (String name : new String[] {"allOf", "anyOf", "oneOf"}) {
            keyword(name, "[true,{\"$ref\":\"#\"}]", "6 at 0");
        }
        keyword("dependentSchemas", "{\"a\":{\"$ref\":\"#\"}}", "6 at 0");
        for (String name : new String[] {"items", "contains", "additionalProperties", "propertyNames", "unevaluatedItems",
            "unevaluatedProperties"}) {
            keyword(name, "{\"$ref\":\"#\"}", "0 at -1");
        }
        keyword("prefixItems", "[{\"$ref\":\"#\"}]", "0 at -1");
        for (String name : new String[] {"properties", "patternProperties", "$defs"}) {
            keyword(name, "{\"a\":{\"$ref\":\"#\"}}", "0 at -1");
        }
        keyword("$defs", "{\"a\":{\"$ref\":\"#/$defs/a\"}}", "6 at 4");
        keyword("$defs", "{\"a\":{\"$ref\":\"#/$defs/b\"},\"b\":{\"$ref\":\"#/$defs/a\"}}", "6 at 4");
        keyword("$defs", "{\"a\":{\"$ref\":\"#/$defs/b\"},\"b\":{\"$ref\":\"#/$defs/b\"}}", "6 at 8");
        keyword("$defs", "{\"a\":{\"$anchor\":\"x\",\"anyOf\":[true,{\"$ref\":\"#x\"}]}}", "6 at 4");
        keyword("allOf", "[{\"$ref\":\"#/allOf/0\"}]", "6 at 3");
        keyword("properties", "{\"a\":{\"$ref\":\"#/properties/a\"}}", "6 at 4");
        faults("6 at 6", "{\"$ref\":\"#/$defs/a\",\"$defs\":{\"a\":{\"$ref\":\"#/$defs/a\"}}}");
        good("{\"$ref\":\"#/$defs/a\",\"$defs\":{\"a\":{\"items\":{\"$ref\":\"#\"}}}}");
    }
}
