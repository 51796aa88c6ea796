/** Boundary cases of Terms 2 but PATTERNS: what a KEYWORD's VALUE may just be, which FAULT is told, where $ref just leads. */
public final class EdgeSchemaTest {
    public static void main(String[] args) {
        trueFalseOrAnObject();
        otherNamesAreNotLookedAt();
        arraysOfSchemasOneAtLeast();
        objectsOfSchemas();
        aboveZero();
        fromZeroToAMillion();
        anchorNames();
        typesDifferentOnesOneAtLeast();
        enumAndConst();
        requiredDifferentStrings();
        theOneInIt();
        theLeastValue();
        ofOneValueTheLeastFault();
        anchorThatIsThereAlready();
        thenTheFifth();
        thenTheSixth();
        theLeastCircle();
        whatIsASchema();
        wholeAndAnchorReferences();
        partsOfReferences();
        placesInArrays();
        percentSigns();
        percentSignsAreUtf8();
        tildes();
        fullSchema();
        Bench.finish();
    }

    private static void checks(String due, String... schemas) {
        for (String schema : schemas) {
            Bench.checks(schema.replace('\'', '"'), due);
        }
    }

    private static void good(String... schemas) {
        checks("0 at -1", schemas);
    }

    /** Each VALUE (between blanks) as that of the KEYWORD alone in a SCHEMA. */
    private static void keyword(String name, String due, String values) {
        for (String value : values.split(" ")) {
            checks(due, "{'" + name + "':" + value + "}");
        }
    }

    private static String list(int n, String element) {
        return "[" + Bench.times(n - 1, element + ",") + element + "]";
    }

    private static void trueFalseOrAnObject() {
        good("true", "false", "{}");
        checks("1 at 0", "null", "0", "1", "''", "'true'", "[]", "[true]", "[{}]");
    }

    private static void otherNamesAreNotLookedAt() {
        good("{'':1}", "{'Type':1}", "{'typE':1}", "{'typ':1}", "{'typee':1}", "{' type':1}", "{'type\\u0000':1}", "{'$ids':1}",
            "{'id':1}", "{'ref':1}",
            "{'$Ref':1}", "{'$schema':1}", "{'definitions':1}", "{'format':1}", "{'maxlength':-1}", "{'dependencies':1}",
            "{'additionalItems':1}");
        checks("1 at 2", "{'t\\u0079pe':1}");
        // in what is no SCHEMA there are no KEYWORDS
        good("{'x':{'type':1}}", "{'const':{'type':1}}", "{'enum':[{'$id':1}]}", "{'x':[{'$anchor':'a'},{'$anchor':'a'}]}",
            "{'properties':{'type':{}}}",
            "{'$defs':{'$id':true,'$ref':false}}", "{'dependentRequired':{'type':[]}}");
    }

    private static void arraysOfSchemasOneAtLeast() {
        for (String name : new String[] {"allOf", "anyOf", "oneOf", "prefixItems"}) {
            keyword(name, "0 at -1", "[true] [{}] [false,{}] " + list(60, "true"));
            keyword(name, "1 at 2", "[] {} true null 1 'a' {'a':true}");
            keyword(name, "1 at 3", "[1] [null] [[]] [1,2]");
            keyword(name, "1 at 62", "[" + Bench.times(59, "true,") + "1]");
        }
    }

    private static void objectsOfSchemas() {
        for (String name : new String[] {"$defs", "properties", "patternProperties", "dependentSchemas"}) {
            keyword(name, "0 at -1", "{} {'':true} {'a':{},'b':false}");
            keyword(name, "1 at 2", "[] true false null 1 '' [true]");
            keyword(name, "1 at 4", "{'':1} {'a':null} {'a':[]} {'a':'b'}");
            keyword(name, "1 at 6", "{'a':true,'b':1}");
        }
    }

    private static void aboveZero() {
        keyword("multipleOf", "0 at -1", "1 0.1 1e-999 1e999 0." + Bench.times(58, "0") + "1");
        keyword("multipleOf", "1 at 2", "0 -0 0.0 0e999 -1 -1e-999 null true '1' [1] {}");
        for (String name : new String[] {"maximum", "exclusiveMaximum", "minimum", "exclusiveMinimum"}) {
            keyword(name, "0 at -1", "0 -0 -1 1e999 -1e999 1e-999 " + Bench.times(60, "9"));
            keyword(name, "1 at 2", "null true '0' [] {}");
        }
    }

    private static void fromZeroToAMillion() {
        String[] names = {"maxLength", "minLength", "maxItems", "minItems", "maxContains", "minContains", "maxProperties",
            "minProperties"};
        for (String name : names) {
            keyword(name, "0 at -1", "0 -0 0.0 0e-999 1 999999 1000000 1e6 1E+6 1000000.0 10000000e-1 0.1e7 0.000001e12 1.0 "
                + "1000000." + Bench.times(53, "0"));
            keyword(name, "1 at 2", "-1 -1e-999 1000001 1000000.1 999999.5 0.5 1e-1 1e7 9999999 10000000 1e999 1e-999 -1000000 "
                + Bench.times(60, "9") + " null true '1' [1] {}");
        }
    }

    private static void anchorNames() {
        for (char c : "azAZ_".toCharArray()) {
            keyword("$anchor", "0 at -1", "'" + c + "' 'a" + c + "'");
        }
        for (char c : "09-.".toCharArray()) {
            keyword("$anchor", "1 at 2", "'" + c + "' '" + c + "a'");
            keyword("$anchor", "0 at -1", "'a" + c + "' 'a" + c + c + "b'");
        }
        for (char c : "/:@[^`{,+~#$%!".toCharArray()) {
            keyword("$anchor", "1 at 2", "'" + c + "' 'a" + c + "' 'a" + c + "b'");
        }
        keyword("$anchor", "1 at 2", "'' '\u00e9' 'a\u00e9' 'a\\u0000' null 1 true [] {} ['a']");
        checks("1 at 2", "{'$anchor':' '}", "{'$anchor':'a b'}");
    }

    private static void typesDifferentOnesOneAtLeast() {
        for (String name : "null boolean object array number string integer".split(" ")) {
            keyword("type", "0 at -1", "'" + name + "' ['" + name + "']");
            keyword("type", "1 at 2", "'" + name + "s' '" + name.substring(1) + "' '" + name.toUpperCase() + "'");
            keyword("type", "1 at 4", "['" + name + "','" + name + "']");
            keyword("type", "1 at 3", "['" + name + "s'] [['" + name + "']]");
        }
        keyword("type", "0 at -1", "['null','boolean','object','array','number','string','integer']");
        keyword("type", "1 at 10", "['null','boolean','object','array','number','string','integer','null']");
        keyword("type", "1 at 2", "[] '' {} null true 1");
        keyword("type", "1 at 3", "[null] [1] [''] [{}]");
    }

    private static void enumAndConst() {
        keyword("enum", "0 at -1", "[] [1] [1,1] [[],{}] " + list(60, "null"));
        keyword("enum", "1 at 2", "{} null true 1 ''");
        keyword("const", "0 at -1", "null true 1 '' [] {}");
        keyword("uniqueItems", "0 at -1", "true false");
        keyword("uniqueItems", "1 at 2", "null 0 1 'true' [] {} [true]");
    }

    private static void requiredDifferentStrings() {
        keyword("required", "0 at -1", "[] [''] ['a'] ['a','A'] ['','a']");
        keyword("required", "1 at 2", "{} null true 1 'a'");
        keyword("required", "1 at 3", "[1] [null] [['a']] [1,2] [1,'a','a']");
        keyword("required", "1 at 4", "['',''] ['a','a'] ['a','\\u0061'] ['a',1]");
        keyword("required", "1 at 5", "['a','b','a'] ['a','b','b'] ['a','b',1,'a']");
        keyword("dependentRequired", "0 at -1", "{} {'':[]} {'a':['a']} {'a':['b'],'b':['b']}");
        keyword("dependentRequired", "1 at 2", "[] null true 1 'a'");
        keyword("dependentRequired", "1 at 4", "{'a':1} {'a':'b'} {'a':{}} {'a':null}");
        keyword("dependentRequired", "1 at 5", "{'a':[1]}");
        keyword("dependentRequired", "1 at 6", "{'a':['b','b']} {'a':['b',1]} {'a':[],'b':1}");
    }

    private static void theOneInIt() {
        // of arrays and objects the one in it; for a SCHEMA what is none
        checks("1 at 6", "{'not':{'allOf':[{},1]}}", "{'properties':{'a':{'not':1}}}", "{'allOf':[true,{'not':1}]}");
        checks("1 at 4", "{'not':{'minLength':-1}}", "{'not':{'type':1}}");
        checks("1 at 8", "{'$defs':{'a':{'items':{'if':1}}}}");
        // in 39 others
        checks("1 at 80", Bench.times(40, "{'not':") + "1" + Bench.times(40, "}"));
        checks("2 at 80", Bench.times(39, "{'not':") + "{'$id':1}" + Bench.times(39, "}"));
    }

    private static void theLeastValue() {
        checks("4 at 2", "{'pattern':'(','$id':1,'type':1}");
        checks("2 at 2", "{'$id':1,'pattern':'(','type':1}");
        checks("1 at 2", "{'type':1,'$id':1,'pattern':'('}");
        checks("2 at 4", "{'not':{'$vocabulary':1},'type':1}");
        checks("1 at 4", "{'not':{'type':1},'$dynamicRef':1}");
        checks("3 at 6", "{'$anchor':'a','not':{'$anchor':'a'},'$dynamicAnchor':1}");
        checks("2 at 4", "{'$anchor':'a','$id':1,'not':{'$anchor':'a'}}");
        checks("4 at 4", "{'patternProperties':{'(':{'type':1}}}");
        checks("1 at 6", "{'patternProperties':{'a':{'type':1},'(':true}}");
        checks("1 at 3", "{'type':['x','y'],'$id':1}");
    }

    private static void ofOneValueTheLeastFault() {
        checks("1 at 4", "{'patternProperties':{'(':1}}", "{'patternProperties':{'(':null}}");
        checks("4 at 4", "{'patternProperties':{'(':true}}", "{'patternProperties':{'(':{}}}");
        checks("1 at 6", "{'$anchor':'a','not':{'$anchor':1}}");
        checks("1 at 2", "{'pattern':1}");
        for (String name : new String[] {"$id", "$dynamicRef", "$dynamicAnchor", "$vocabulary"}) {
            keyword(name, "2 at 2", "null true '' 'a' '#' {} [] 1");
        }
    }

    private static void anchorThatIsThereAlready() {
        good("{'$anchor':'a','not':{'$anchor':'A'}}", "{'$anchor':'a','not':{'$anchor':'aa'}}",
            "{'$anchor':'a','x':{'$anchor':'a'}}");
        checks("3 at 6", "{'$anchor':'a','not':{'$anchor':'a'}}", "{'$anchor':'a','not':{'$anchor':'\\u0061'}}",
            "{'not':{'$anchor':'a'},'$anchor':'a'}");
        checks("3 at 8", "{'allOf':[{'$anchor':'a'},{'$anchor':'a'}]}",
            "{'allOf':[{'$anchor':'a'},{'$anchor':'a'},{'$anchor':'a'}]}");
        // one that is no name is not there
        checks("1 at 2", "{'$anchor':'-','not':{'$anchor':'-'}}");
    }

    private static void thenTheFifth() {
        checks("5 at 2", "{'$ref':'#/x'}", "{'$ref':''}", "{'$ref':'#/x','not':{'$ref':'#/y'}}");
        checks("5 at 6", "{'$ref':'#','not':{'$ref':'#/x'}}");
        // FAULTS 1 to 4 come before it, wherever they stand
        checks("1 at 4", "{'$ref':'#/x','type':1}");
        checks("2 at 4", "{'$ref':'#/x','$id':1}");
        checks("3 at 8", "{'$ref':'#/x','$anchor':'a','not':{'$anchor':'a'}}");
        checks("4 at 4", "{'$ref':'#/x','pattern':'('}");
        checks("1 at 2", "{'$ref':1}");
    }

    private static void thenTheSixth() {
        checks("6 at 0", "{'$ref':'#'}", "{'not':{'$ref':'#'}}", "{'if':{'$ref':'#'}}", "{'then':{'$ref':'#'}}",
            "{'else':{'$ref':'#'}}",
            "{'allOf':[{'$ref':'#'}]}", "{'anyOf':[true,{'$ref':'#'}]}", "{'oneOf':[true,true,{'$ref':'#'}]}",
            "{'dependentSchemas':{'a':true,'b':{'$ref':'#'}}}");
        good("{'items':{'$ref':'#'}}", "{'contains':{'$ref':'#'}}", "{'additionalProperties':{'$ref':'#'}}",
            "{'propertyNames':{'$ref':'#'}}",
            "{'unevaluatedItems':{'$ref':'#'}}", "{'unevaluatedProperties':{'$ref':'#'}}", "{'prefixItems':[{'$ref':'#'}]}",
            "{'properties':{'a':{'$ref':'#'}}}", "{'patternProperties':{'a':{'$ref':'#'}}}", "{'$defs':{'a':{'$ref':'#'}}}");
        // 1 to 5 come before it
        checks("1 at 4", "{'$ref':'#','type':1}");
        checks("5 at 6", "{'$ref':'#','not':{'$ref':'#/x'}}");
        // through another one, and only through what is evaluated for the same VALUE
        checks("6 at 0", "{'$ref':'#/$defs/a','$defs':{'a':{'not':{'$ref':'#'}}}}");
        good("{'$ref':'#/$defs/a','$defs':{'a':{'items':{'$ref':'#'}}}}", "{'not':{'items':{'not':{'$ref':'#'}}}}");
    }

    private static void theLeastCircle() {
        checks("6 at 4", "{'$defs':{'a':{'$ref':'#/$defs/a'},'b':{'$ref':'#/$defs/b'}}}",
            "{'$defs':{'a':{'$ref':'#/$defs/b'},'b':{'$ref':'#/$defs/a'}}}");
        // what leads into a circle is not in it
        checks("6 at 8", "{'$defs':{'a':{'$ref':'#/$defs/b'},'b':{'$ref':'#/$defs/b'}}}",
            "{'$ref':'#/$defs/b','$defs':{'b':{'not':{'$ref':'#/$defs/b/not'}}}}");
        checks("6 at 4", "{'items':{'items':{'$ref':'#/items/items'}}}", "{'items':{'items':{'not':{'$ref':'#/items/items'}}}}");
        checks("6 at 2", "{'items':{'$ref':'#/items'}}", "{'items':{'allOf':[{'$ref':'#/items'}]}}");
        // the longest circle that a SCHEMA has room for, and the same one open
        StringBuilder ring = new StringBuilder("{'$defs':{");
        for (int i = 0; i < 59; i++) {
            ring.append(i == 0 ? "" : ",").append("'a").append(i).append("':{'$ref':'#/$defs/a").append(i + 1).append("'}");
        }
        checks("6 at 4", ring + ",'a59':{'$ref':'#/$defs/a0'}}}");
        checks("6 at 236", ring + ",'a59':{'$ref':'#/$defs/a58'}}}");
        checks("6 at 240", ring + ",'a59':{'$ref':'#/$defs/a59'}}}");
        good(ring + ",'a59':{}}}");
        // two ways from each to the next one: as many ways in all as no row has room for
        StringBuilder wide = new StringBuilder("{'$defs':{");
        for (int i = 0; i < 30; i++) {
            wide.append("'a").append(i).append("':{'allOf':[{'$ref':'#/$defs/b").append("'},{'$ref':'#/$defs/a").append(i
                + 1).append("'},{'$ref':'#/$defs/a").append(i + 1).append("'}]},");
        }
        checks("6 at 4", wide + "'b':true,'a30':{'$ref':'#/$defs/a0'}}}");
        good(wide + "'b':true,'a30':{'$ref':'#/$defs/b'}}}");
    }

    private static final String PLACES = "{'items':{'$ref':'REF'},'$defs':{'a':{},'':true,'b':{'not':{'$anchor':'in'}},'/':{},'~':{},'~0':{},'0':{},'%':{},'%2':{},"
        + "'%41':{},'A':{},'\u00e9':{},'\ud800\udc00':{}},'prefixItems':[{},true,{},{},{},{},{},{},{},{},{'not':{}}],'allOf':[{'const':{}}],'x':{'a':{}},"
        + "'const':{'a':{}},'enum':[{}],'$anchor':'top','':{}}";

    private static void leads(String... references) {
        for (String reference : references) {
            checks("0 at -1", PLACES.replace("REF", reference));
        }
    }

    private static void lost(String... references) {
        for (String reference : references) {
            checks("5 at 4", PLACES.replace("REF", reference));
        }
    }

    private static void whatIsASchema() {
        leads("#", "#/$defs/a", "#/$defs/", "#/prefixItems/1", "#/allOf/0", "#/$defs/b/not", "#/prefixItems/10/not");
        lost("#/$defs", "#/prefixItems", "#/allOf", "#/x", "#/x/a", "#/const", "#/const/a", "#/enum", "#/enum/0",
            "#/allOf/0/const", "#/$anchor", "#/",
            "#/items/$ref", "#/$defs/b/not/$anchor");
    }

    private static void wholeAndAnchorReferences() {
        leads("#", "#top", "#in");
        lost("", " ", "# ", " #", "##", "#Top", "#to", "#topp", "#in/", "#in/not", "top", "#-", "a", "a#", "http://a/b", "a#top",
            "#x");
    }

    private static void partsOfReferences() {
        leads("#/$defs/a", "#/$defs/b/not", "#/$defs/", "#/$defs/0", "#/$defs/%");
        lost("/", "/$defs/a", "$defs/a", "#$defs/a", "#//$defs/a", "#/$defs//a", "#/$defs/a/", "#/$defs/c", "#/$Defs/a",
            "#/$defs/a/a", "#/$defs//", "#/a",
            "#/$defs/b/not/", "#/$defs/a ", "#/ $defs/a", "#/$defs/00");
    }

    private static void placesInArrays() {
        leads("#/prefixItems/0", "#/prefixItems/1", "#/prefixItems/9", "#/prefixItems/10");
        lost("#/prefixItems/11", "#/prefixItems/00", "#/prefixItems/01", "#/prefixItems/010", "#/prefixItems/",
            "#/prefixItems/-0", "#/prefixItems/-1", "#/prefixItems/+1",
            "#/prefixItems/1.0", "#/prefixItems/1e0", "#/prefixItems/ 1", "#/prefixItems/1 ", "#/prefixItems/a",
            "#/prefixItems/:", "#/prefixItems/60",
            "#/prefixItems/100", "#/prefixItems/4294967296", "#/prefixItems/4294967297", "#/prefixItems/18446744073709551616",
            "#/prefixItems/\u0661",
            "#/prefixItems/1" + Bench.times(300, "0"), "#/allOf/1");
        String sixty = "{'items':{'$ref':'#/prefixItems/REF'},'prefixItems':" + list(60, "true") + "}";
        checks("0 at -1", sixty.replace("REF", "59"));
        checks("5 at 4", sixty.replace("REF", "60"), sixty.replace("REF", "99"), sixty.replace("REF", "059"));
    }

    private static void percentSigns() {
        leads("#/$defs/%61", "#/%24%64efs/a", "#/$defs%2Fa", "#/$defs%2fa", "%23", "%23/$defs/a", "#%2F$defs/a", "#%74op",
            "#/prefixItems/%31%30", "#/$defs/%41");
        // another % is itself
        leads("#/$defs/%", "#/$defs/%2", "#/$defs/%25", "#/$defs/%252", "#/$defs/%2541");
        lost("#/$defs/%6", "#/$defs/%6g", "#/$defs/%g1", "#/$defs/%%61", "#/$defs/%2561", "#/$defs/%61%", "#/$defs/%00",
            "#/$defs/% 61", "#/$defs/%2%35");
        String own = "{'items':{'$ref':'#/$defs/REF'},'$defs':{'REF':{}}}";
        for (String name : new String[] {"%", "%%", "%%%", "%0", "%g0", "%0g", "%@0", "%0@", "%`0", "%0`", "%:0", "%0:", "% 0",
            "a%", "%\u00e9"}) {
            checks("0 at -1", own.replace("REF", name));
        }
        for (String name : new String[] {"%00", "%7F", "%aF", "%09", "%fe"}) {
            checks("5 at 4", own.replace("REF", name));
        }
    }

    private static void named(String name, String reference, String due) {
        checks(due, "{'items':{'$ref':'#/$defs/" + reference + "'},'$defs':{'" + name + "':{}}}");
    }

    private static void percentSignsAreUtf8() {
        named("\u007f", "%7F", "0 at -1");
        named("\u0080", "%C2%80", "0 at -1");
        named("\u07ff", "%DF%BF", "0 at -1");
        named("\u0800", "%E0%A0%80", "0 at -1");
        named("\ud7ff", "%ED%9F%BF", "0 at -1");
        named("\ue000", "%EE%80%80", "0 at -1");
        named("\uffff", "%EF%BF%BF", "0 at -1");
        named("\ud800\udc00", "%F0%90%80%80", "0 at -1");
        named("\udbff\udfff", "%f4%8f%bf%bf", "0 at -1");
        named("\u00e9a", "%c3%a9a", "0 at -1");
        named("\\u0000", "%00", "0 at -1");
        String[] none = {"%80", "%BF", "%C0%80", "%C1%BF", "%C2", "%C2%", "%C2%7F", "%C2%C0", "%C2a", "%E0%9F%BF", "%E0%A0",
            "%ED%A0%80", "%ED%BF%BF", "%F0%8F%BF%BF",
            "%F4%90%80%80", "%F5%80%80%80", "%FF", "%C3\u00a9", "%E2%82", "%F0%90%80", "%C2\u0080"};
        for (String reference : none) {
            named("x", reference, "5 at 4");
            named("x", "x" + reference, "5 at 4");
        }
        // all of it: also where it would lead to an $anchor
        lost("#top%FF", "%FF#top", "#top%C3");
    }

    private static void tildes() {
        leads("#/$defs/~0", "#/$defs/~1", "#/$defs/~00", "#/$defs/%7E0", "#/$defs/~%30", "#/$defs/%7e%31");
        lost("#/$defs/~", "#/$defs/~2", "#/$defs/~a", "#/$defs/~~", "#/$defs/~~0", "#/$defs/a~", "#/$defs/~/", "#/$defs/~0/~",
            "#/$defs/~1~", "#/prefixItems/~0", "#~0", "#~1$defs~1a",
            "#top~", "#/~", "#/$defs/~/0");
        named("~1", "~01", "0 at -1");
        named("~1", "~1", "5 at 4");
        named("~0", "~00", "0 at -1");
        named("~0", "~0", "5 at 4");
        named("/", "~1", "0 at -1");
        named("~", "~0", "0 at -1");
        named("~01", "~001", "0 at -1");
        named("~", "~", "5 at 4");
        named("a~b/c", "a~0b~1c", "0 at -1");
        named("~2", "~02", "0 at -1");
        named("~2", "~2", "5 at 4");
    }

    private static void fullSchema() {
        // 1,000 VALUES, of which the last one is the FAULT; then none
        String sixteen = "{'items':{'items':{'items':{'items':{'items':{'items':{'items':true}}}}}}}";
        StringBuilder all = new StringBuilder("{'allOf':[");
        for (int i = 0; i < 60; i++) {
            all.append(i == 0 ? "" : ",").append(sixteen);
        }
        // 3 + 60 * 15 = 903 VALUES
        all.append("],'anyOf':").append(list(46, "{}")).append(",'oneOf':").append(list(45, "{}"));
        Bench bench = new Bench();
        Bench.same("1,000 VALUES", bench.schema((all + ",'x':0}").replace('\'', '"')), "1000");
        Bench.same("no FAULT", bench.check(), "0 at -1");
        bench.schema((all + ",'not':0}").replace('\'', '"'));
        Bench.same("the last VALUE", bench.check(), "1 at 999");
        bench.schema((all + ",'$ref':'#'}").replace('\'', '"'));
        Bench.same("the last VALUE leads back", bench.check(), "6 at 0");
        bench.schema((all + ",'$ref':'#/x'}").replace('\'', '"'));
        Bench.same("the last VALUE leads to none", bench.check(), "5 at 999");
    }
}
