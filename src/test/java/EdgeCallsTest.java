import java.nio.charset.StandardCharsets;

/** Boundary cases of promises 1 to 14: refused calls, what is empty or full, and what stays when a call throws. */
public final class EdgeCallsTest {
    private static final String INDEX = "IndexOutOfBoundsException";
    private static final String ARGUMENT = "IllegalArgumentException";
    private static final String STATE = "IllegalStateException";
    private static final String LIMIT = "UnsupportedOperationException";
    private static final int[] FAR = {Integer.MIN_VALUE, Integer.MIN_VALUE + 1, -65536, -256, -2, -1, 1000, 1001, 8192, 8193,
        65536, Integer.MAX_VALUE - 1, Integer.MAX_VALUE};

    public static void main(String[] args) {
        newObject();
        feedOctetsInOrder();
        feedUpTo8200();
        endBelowZeroOrAboveWhatWasFed();
        endAbove8192();
        endOfNothing();
        endThatThrowsIndexKeepsAll();
        endThatIsWrongTakesAwayItsKindAlone();
        wrongOfTheLatestText();
        checkWithoutASchema();
        faultSinceEnd();
        validateWithoutOneOfThem();
        validateBeyondTheLimit();
        pairsOfTheLatestValidate();
        pairThatIsThere();
        valueArguments();
        valueOfEachKind();
        valueOfNumbers();
        valueOfTheInnermost();
        alikeArguments();
        matchesArguments();
        countArguments();
        counts();
        refusedCallsChangeNothing();
        fiveHundredAndTwelveCalls();
        Bench.finish();
    }

    private static void newObject() {
        SchemaJudge x = new SchemaJudge();
        Bench.same("wrong", x.wrong(), -1);
        Bench.same("fault", x.fault(), -1);
        Bench.same("pairs", x.pairs(), 0);
        Bench.same("counts", x.count(0) + " " + x.count(1) + " " + x.count(2) + " " + x.count(3), "0 0 0 0");
        Bench.same("check", Bench.outcome(x::check), STATE);
        Bench.same("validate", Bench.outcome(x::validate), STATE);
        Bench.same("pair", Bench.outcome(() -> x.pair(0, true)), INDEX);
        Bench.same("value", Bench.outcome(() -> x.value(true, 0, 0)), INDEX);
        Bench.same("alike", Bench.outcome(() -> x.alike(0, 0)), INDEX);
        Bench.same("matches", Bench.outcome(() -> x.matches(0, 0)), INDEX);
        Bench.same("end of one octet", Bench.outcome(() -> x.end(true, 1)), INDEX);
        Bench.same("end of none", Bench.outcome(() -> x.end(true, 0)), ARGUMENT);
        Bench.same("wrong at the end", x.wrong(), 0);
    }

    private static void feedOctetsInOrder() {
        SchemaJudge x = new SchemaJudge();
        // "\u0080 \u00ff as UTF-8: octets above 127 make words below 0
        Bench.same("20", x.feed(0x22C280C3, 0xBFF48FBF, 0xBFEFBFBF, 0x7F202221, 0x80000000), 20);
        Bench.same("one string", x.end(false, 15), 1);
        Bench.same("six characters", x.value(false, 0, 2), 6);
        Bench.same("twenty of each", x.feed(-1, -1, -1, -1, -1), 20);
        Bench.same("forty", x.feed(Integer.MIN_VALUE, Integer.MAX_VALUE, 0, 1, -2), 40);
        Bench.same("wrong at once", Bench.outcome(() -> x.end(false, 40)), ARGUMENT);
        Bench.same("at 0", x.wrong(), 0);
        x.feed(0x20202020, 0x20202020, 0x20202020, 0x20202020, 0x20202031);
        x.feed(0x32333420, 0x20202020, 0x20202020, 0x20202020, 0x20202020);
        Bench.same("a number over the seam of two calls", x.end(false, 40), 1);
        Bench.same("where it begins, and its digits", x.value(false, 0, 1) + " " + x.value(false, 0, 2), "19 4");
    }

    private static SchemaJudge fed(int calls) {
        SchemaJudge x = new SchemaJudge();
        for (int i = 1; i <= calls; i++) {
            Bench.same("feed " + i, x.feed(0x20202020, 0x20202020, 0x20202020, 0x20202020, 0x20202020), 20 * i);
        }
        return x;
    }

    private static void feedUpTo8200() {
        SchemaJudge x = fed(409);
        Bench.same("the 410th", x.feed(0x20202020, 0x20203120, 0x20203220, 0x20202020, 0x20202020), 8200);
        Bench.same("the 411th", Bench.outcome(() -> x.feed(0, 0, 0, 0, 0)), INDEX);
        Bench.same("and again", Bench.outcome(() -> x.feed(-1, -1, -1, -1, -1)), INDEX);
        Bench.same("all stays", Bench.outcome(() -> x.end(false, 8192)), ARGUMENT);
        Bench.same("its second number", x.wrong(), 8190);
        Bench.same("what was fed is nothing then", x.feed(0x31202020, 0, 0, 0, 0), 20);
        for (int i = 2; i <= 410; i++) {
            Bench.same("feed again " + i, x.feed(0, 0, 0, 0, 0), 20 * i);
        }
        Bench.same("the 411th again", Bench.outcome(() -> x.feed(0, 0, 0, 0, 0)), INDEX);
        Bench.same("one octet of them", x.end(true, 1), 1);
        Bench.same("and all were used up", x.feed(0, 0, 0, 0, 0), 20);
    }

    private static void endBelowZeroOrAboveWhatWasFed() {
        SchemaJudge x = new SchemaJudge();
        x.feed(0x31323334, 0x35363738, 0x39303132, 0x33343536, 0x37383930);
        for (int n : FAR) {
            Bench.same("end of " + n, Bench.outcome(() -> x.end(false, n)), INDEX);
            Bench.same("end of " + n, Bench.outcome(() -> x.end(true, n)), INDEX);
        }
        Bench.same("one more than was fed", Bench.outcome(() -> x.end(false, 21)), INDEX);
        Bench.same("no text was looked at", x.wrong(), -1);
        Bench.same("all that was fed", x.end(false, 20), 1);
        Bench.same("19 digits and a 0 behind", x.value(false, 0, 2) + " " + x.value(false, 0, 4), "19 1");
        Bench.same("nothing is fed", Bench.outcome(() -> x.end(false, 1)), INDEX);
        x.feed(0x31323334, 0x35363738, 0x39303132, 0x33343536, 0x37383930);
        Bench.same("one less than was fed", x.end(false, 19), 1);
        Bench.same("its digits", x.value(false, 0, 2), 19);
        Bench.same("the rest is nothing, too", x.feed(0, 0, 0, 0, 0), 20);
    }

    private static void endAbove8192() {
        SchemaJudge x = fed(410);
        for (int n = 8193; n <= 8201; n++) {
            int m = n;
            Bench.same("end of " + n, Bench.outcome(() -> x.end(false, m)), INDEX);
        }
        Bench.same("end of 8192", Bench.outcome(() -> x.end(false, 8192)), ARGUMENT);
        Bench.same("blanks alone", x.wrong(), 8192);
    }

    private static void endOfNothing() {
        Bench bench = new Bench();
        Bench.same("nothing fed", Bench.outcome(() -> bench.judge.end(false, 0)), ARGUMENT);
        Bench.same("at its end", bench.judge.wrong(), 0);
        bench.instance("[1]");
        bench.feed("[]".getBytes(StandardCharsets.UTF_8));
        Bench.same("nothing of what was fed", Bench.outcome(() -> bench.judge.end(false, 0)), ARGUMENT);
        Bench.same("no INSTANCE then", bench.judge.count(1), 0);
        Bench.same("nothing fed then", bench.judge.feed(0, 0, 0, 0, 0), 20);
    }

    private static Bench used() {
        Bench bench = new Bench();
        bench.schema("{\"items\":{\"type\":\"null\"}}");
        bench.check();
        bench.instance("[null,[1,\"a\"],\"(\"]");
        bench.validate();
        return bench;
    }

    /** All that can be asked without a change. */
    private static String state(Bench bench) {
        StringBuilder told = new StringBuilder();
        SchemaJudge x = bench.judge;
        told.append(x.wrong()).append(' ').append(x.fault()).append(' ').append(x.pairs());
        for (int k = 0; k < x.pairs(); k++) {
            told.append(' ').append(x.pair(k, false)).append(':').append(x.pair(k, true));
        }
        for (int what = 0; what < 4; what++) {
            told.append(" c").append(x.count(what));
        }
        for (int v = 0; v < x.count(0); v++) {
            told.append(" s").append(bench.value(true, v));
        }
        for (int v = 0; v < x.count(1); v++) {
            told.append(" i").append(bench.value(false, v));
        }
        return told.toString();
    }

    private static void endThatThrowsIndexKeepsAll() {
        Bench bench = used();
        String before = state(bench);
        bench.feed("tru".getBytes(StandardCharsets.UTF_8));
        Bench.same("too many", Bench.outcome(() -> bench.judge.end(true, 21)) + Bench.outcome(() -> bench.judge.end(false, -1)),
            INDEX + INDEX);
        Bench.same("all stays", state(bench), before);
        Bench.same("the SCHEMA is still checked", bench.validate(), "bad 0:2 2:4 5:4");
        Bench.same("what was fed stays", Bench.outcome(() -> bench.judge.end(false, 3)), ARGUMENT);
        Bench.same("wrong", bench.judge.wrong(), 3);
    }

    private static void endThatIsWrongTakesAwayItsKindAlone() {
        Bench bench = used();
        SchemaJudge x = bench.judge;
        Bench.same("INSTANCE", bench.instance("[1,"), "wrong at 3");
        Bench.same("counts", x.count(0) + " " + x.count(1), "5 0");
        Bench.same("no INSTANCE", Bench.outcome(x::validate) + Bench.outcome(() -> x.value(false, 0, 0))
            + Bench.outcome(() -> x.alike(0, 0)) + Bench.outcome(() -> x.matches(0, 0)),
            STATE + INDEX + INDEX + INDEX);
        Bench.same("the SCHEMA stays checked", x.value(true, 0, 0) + " " + x.fault(), "6 -1");
        bench.instance("[null]");
        Bench.same("and is used", bench.validate(), "good");
        Bench.same("SCHEMA", bench.schema("{\"type\":}"), "wrong at 8");
        Bench.same("counts", x.count(0) + " " + x.count(1), "0 2");
        Bench.same("no SCHEMA", Bench.outcome(x::check) + Bench.outcome(x::validate) + Bench.outcome(() -> x.value(true, 0, 0)),
            STATE + STATE + INDEX);
        Bench.same("the INSTANCE stays", x.value(false, 0, 0) + " " + x.alike(0, 0), "5 true");
        bench.schema("{}");
        bench.check();
        Bench.same("and is evaluated", bench.validate(), "good");
    }

    private static void wrongOfTheLatestText() {
        Bench bench = new Bench();
        SchemaJudge x = bench.judge;
        bench.instance("[1 1]");
        Bench.same("an INSTANCE", x.wrong(), 3);
        bench.schema("tru3");
        Bench.same("a SCHEMA", x.wrong(), 3);
        bench.schema("5");
        Bench.same("a right one, though it will have a FAULT", x.wrong(), -1);
        bench.check();
        Bench.same("check() is no text", x.wrong(), -1);
        bench.instance("x");
        Bench.same("wrong at 0", x.wrong(), 0);
        x.feed(0, 0, 0, 0, 0);
        Bench.outcome(x::validate);
        Bench.outcome(() -> x.end(true, 99));
        Bench.same("it stays until the next text", x.wrong(), 0);
        Bench.outcome(() -> x.end(true, 20));
        bench.instance("1");
        Bench.same("right", x.wrong(), -1);
    }

    private static void checkWithoutASchema() {
        Bench bench = new Bench();
        SchemaJudge x = bench.judge;
        bench.instance("{}");
        Bench.same("an INSTANCE is none", Bench.outcome(x::check), STATE);
        bench.schema("{");
        Bench.same("a WRONG one is none", Bench.outcome(x::check), STATE);
        bench.schema("{}");
        Bench.same("there is one", Bench.outcome(x::check) + Bench.outcome(x::check), "00");
        bench.schema("}");
        Bench.same("there is none again", Bench.outcome(x::check) + x.fault(), STATE + "-1");
    }

    private static void faultSinceEnd() {
        Bench bench = new Bench();
        SchemaJudge x = bench.judge;
        bench.schema("0");
        Bench.same("not checked", x.fault(), -1);
        Bench.same("VALUE 0", bench.check(), "1 at 0");
        bench.schema("{\"not\":{\"$ref\":\"#\"}}");
        Bench.same("read again", x.fault(), -1);
        Bench.same("a circle", bench.check(), "6 at 0");
        bench.schema("wrong");
        Bench.same("refused", x.fault(), -1);
        bench.schema("{\"x\":1,\"$ref\":\"#/x\"}");
        bench.check();
        bench.feed("true".getBytes(StandardCharsets.UTF_8));
        Bench.outcome(() -> x.end(true, 21));
        Bench.same("end() that read nothing", x.fault(), 4);
        Bench.outcome(x::validate);
        x.end(false, 4);
        Bench.same("an INSTANCE is no SCHEMA", x.fault(), 4);
        Bench.same("checked again", bench.check(), "5 at 4");
        bench.schema("true");
        Bench.same("none", bench.check(), "0 at -1");
    }

    private static void validateWithoutOneOfThem() {
        Bench bench = new Bench();
        SchemaJudge x = bench.judge;
        bench.schema("true");
        bench.check();
        Bench.same("no INSTANCE", Bench.outcome(x::validate), STATE);
        bench.instance("1");
        Bench.same("both", Bench.outcome(x::validate), "true");
        bench.schema("false");
        Bench.same("not checked", Bench.outcome(x::validate), STATE);
        bench.check();
        Bench.same("checked", Bench.outcome(x::validate), "false");
        bench.schema("null");
        bench.check();
        Bench.same("with a FAULT", Bench.outcome(x::validate), STATE);
        Bench.same("what the latest one found", x.pairs() + " " + x.count(2) + " " + x.count(3), "1 1 1");
    }

    private static final String DEEP = "{\"maxItems\":0,\"items\":{\"allOf\":[{\"$ref\":\"#\"}]}}";

    private static void validateBeyondTheLimit() {
        Bench bench = new Bench();
        SchemaJudge x = bench.judge;
        bench.schema(DEEP);
        bench.check();
        bench.instance("[1]");
        Bench.same("pairs", bench.validate(), "bad 0:2");
        bench.instance(Bench.times(40, "[") + Bench.times(40, "]"));
        Bench.same("1 + 3 * 33 = 100, and one more", Bench.outcome(x::validate), LIMIT);
        Bench.same("no PAIRS, and what was counted", x.pairs() + " " + x.count(2) + " " + x.count(3), "0 101 100");
        Bench.same("no pair", Bench.outcome(() -> x.pair(0, false)), INDEX);
        Bench.same("again", Bench.outcome(x::validate) + x.count(2), LIMIT + "101");
        bench.instance("[]");
        Bench.same("the next one is free of it", bench.validate() + x.count(2) + x.count(3), "good11");
        Bench.same("the INSTANCE stays", x.count(1), 1);
    }

    private static void pairsOfTheLatestValidate() {
        Bench bench = used();
        SchemaJudge x = bench.judge;
        Bench.same("three", x.pairs(), 3);
        bench.schema("x");
        bench.instance("x");
        Bench.outcome(x::validate);
        Bench.same("they stay without texts", x.pairs() + " " + x.pair(2, false) + " " + x.pair(2, true), "3 5 4");
        bench.schema("true");
        bench.check();
        bench.instance("1");
        Bench.same("they stay until validate() finds others", x.pairs(), 3);
        bench.validate();
        Bench.same("none", x.pairs(), 0);
    }

    private static void pairThatIsThere() {
        Bench bench = used();
        SchemaJudge x = bench.judge;
        for (boolean keyword : new boolean[] {false, true}) {
            for (int k : FAR) {
                Bench.same("pair " + k, Bench.outcome(() -> x.pair(k, keyword)), INDEX);
            }
            Bench.same("pair 3 of 3", Bench.outcome(() -> x.pair(3, keyword)), INDEX);
        }
        Bench.same("pair 0", x.pair(0, false) + ":" + x.pair(0, true), "0:2");
        Bench.same("pair 2", x.pair(2, false) + ":" + x.pair(2, true), "5:4");
    }

    private static void valueArguments() {
        Bench bench = used();
        SchemaJudge x = bench.judge;
        for (boolean schema : new boolean[] {false, true}) {
            int last = x.count(schema ? 0 : 1) - 1;
            for (int what : new int[] {Integer.MIN_VALUE, -1, 5, 6, Integer.MAX_VALUE}) {
                Bench.same("what " + what, Bench.outcome(() -> x.value(schema, 0, what)), ARGUMENT);
                Bench.same("what " + what + " of none", Bench.outcome(() -> x.value(schema, -1, what)), ARGUMENT);
                Bench.same("what " + what + " of none", Bench.outcome(() -> x.value(schema, last + 1, what)), ARGUMENT);
            }
            for (int what = 0; what < 5; what++) {
                int w = what;
                for (int v : FAR) {
                    Bench.same("value " + v, Bench.outcome(() -> x.value(schema, v, w)), INDEX);
                }
                Bench.same("one too far", Bench.outcome(() -> x.value(schema, last + 1, w)), INDEX);
                Bench.same("the last", Bench.outcome(() -> x.value(schema, last, w)).length() < 3, true);
            }
        }
    }

    private static void valueOfEachKind() {
        Bench bench = new Bench();
        bench.instance("{\"\":[null,false,true,0,\"\",[],{}],\"a\":-12.50e3}");
        String[] due = {"6 0 2 -1 0", "4 1 0 0 0", "5 4 7 0 0", "0 5 0 2 0", "1 10 0 2 0", "2 16 0 2 0", "3 21 0 2 0",
            "4 23 0 2 0", "5 26 0 2 0", "6 29 0 2 0", "4 33 1 0 0",
            "3 37 3 0 2"};
        for (int v = 0; v < due.length; v++) {
            Bench.same("VALUE " + v, bench.value(false, v), due[v]);
        }
        bench.instance(" \t\r\n7");
        Bench.same("behind blanks", bench.value(false, 0), "3 4 1 -1 0");
    }

    private static void valueOfNumbers() {
        String nines = Bench.times(60, "9");
        String[][] due = {{"0", "0 0"}, {"-0", "0 0"}, {"0e999", "0 0"}, {"0.00e-999", "0 0"}, {"1", "1 0"}, {"-1", "1 0"}, {"10",
            "1 1"}, {"101", "3 0"}, {"1.0", "1 0"}, {"0.1", "1 -1"},
            {"1e999", "1 999"}, {"1e-999", "1 -999"}, {nines, "60 0"}, {"0." + Bench.times(59, "9"), "59 -59"}, {"0."
            + Bench.times(58, "0") + "1e-999", "1 -1058"},
            {"1" + Bench.times(59, "0") + "e999", "1 1058"}, {nines + "e-999", "60 -999"}, {"1." + Bench.times(59, "0"), "1 0"},
            {"100e-2", "1 0"}, {"100e-3", "1 -1"},
            {"1." + Bench.times(58, "0") + "1", "60 -59"}};
        for (String[] row : due) {
            Bench bench = new Bench();
            bench.instance(row[0]);
            Bench.same(row[0], bench.judge.value(false, 0, 2) + " " + bench.judge.value(false, 0, 4), row[1]);
        }
    }

    private static void valueOfTheInnermost() {
        Bench bench = new Bench();
        bench.instance(Bench.times(39, "{\"a\":") + "[1]" + Bench.times(39, "}"));
        Bench.same("the 40th", bench.value(false, 78), "5 195 1 76 0");
        Bench.same("in it", bench.value(false, 79), "3 196 1 78 0");
        bench.instance("[" + Bench.times(59, "[],") + "\"" + Bench.times(4000, "a") + "\"]");
        Bench.same("the 60th", bench.value(false, 60), "4 178 4000 0 0");
        Bench.same("sixty", bench.value(false, 0), "5 0 60 -1 0");
    }

    private static void alikeArguments() {
        Bench bench = new Bench();
        SchemaJudge x = bench.judge;
        bench.schema("[1,2,3]");
        Bench.same("a SCHEMA is no INSTANCE", Bench.outcome(() -> x.alike(0, 0)), INDEX);
        bench.instance("[1,1.0]");
        for (int v : FAR) {
            Bench.same("alike " + v, Bench.outcome(() -> x.alike(v, 0)) + Bench.outcome(() -> x.alike(0, v))
                + Bench.outcome(() -> x.alike(v, v)), INDEX + INDEX + INDEX);
        }
        Bench.same("one too far", Bench.outcome(() -> x.alike(2, 3)) + Bench.outcome(() -> x.alike(3, 2)), INDEX + INDEX);
        Bench.same("the last two", Bench.outcome(() -> x.alike(1, 2)) + Bench.outcome(() -> x.alike(2, 1))
            + Bench.outcome(() -> x.alike(0, 2)), "truetruefalse");
    }

    private static void matchesArguments() {
        Bench bench = new Bench();
        SchemaJudge x = bench.judge;
        bench.schema("[\"a\"]");
        Bench.same("a SCHEMA is no INSTANCE", Bench.outcome(() -> x.matches(1, 1)), INDEX);
        bench.instance("[1,\"(\",\"a\"]");
        for (int v : FAR) {
            Bench.same("matches " + v, Bench.outcome(() -> x.matches(v, 3)) + Bench.outcome(() -> x.matches(3, v))
                + Bench.outcome(() -> x.matches(v, v)), INDEX + INDEX + INDEX);
            // there is no such VALUE: that is thrown first, whatever the other one is
            Bench.same("matches " + v, Bench.outcome(() -> x.matches(v, 2)) + Bench.outcome(() -> x.matches(0, v)), INDEX
                + INDEX);
        }
        Bench.same("one too far", Bench.outcome(() -> x.matches(4, 1)) + Bench.outcome(() -> x.matches(1, 4)), INDEX + INDEX);
        Bench.same("no strings", Bench.outcome(() -> x.matches(0, 3)) + Bench.outcome(() -> x.matches(3, 0))
            + Bench.outcome(() -> x.matches(1, 1)), ARGUMENT + ARGUMENT + ARGUMENT);
        Bench.same("no PATTERN", Bench.outcome(() -> x.matches(3, 2)), ARGUMENT);
        Bench.same("and then one", Bench.outcome(() -> x.matches(3, 3)) + Bench.outcome(() -> x.matches(2, 3)), "truefalse");
    }

    private static void countArguments() {
        Bench bench = used();
        for (int what : FAR) {
            Bench.same("count " + what, Bench.outcome(() -> bench.judge.count(what)), ARGUMENT);
        }
        Bench.same("count 4", Bench.outcome(() -> bench.judge.count(4)), ARGUMENT);
        Bench.same("count 5", Bench.outcome(() -> bench.judge.count(5)), ARGUMENT);
    }

    private static void counts() {
        Bench bench = used();
        SchemaJudge x = bench.judge;
        Bench.same("all four", x.count(0) + " " + x.count(1) + " " + x.count(2) + " " + x.count(3), "5 6 4 2");
        bench.schema("[");
        bench.instance("[");
        Bench.same("texts go, what validate() counted stays", x.count(0) + " " + x.count(1) + " " + x.count(2) + " " + x.count(3),
            "0 0 4 2");
        Bench.outcome(x::validate);
        Bench.same("a refused one counts nothing", x.count(2) + " " + x.count(3), "4 2");
        bench.schema("false");
        bench.check();
        bench.instance("1");
        bench.validate();
        Bench.same("one", x.count(0) + " " + x.count(1) + " " + x.count(2) + " " + x.count(3), "1 1 1 1");
    }

    /** Every call that throws and is to change nothing, in the state that used() and what was fed then leave. */
    private static void refuse(SchemaJudge x) {
        Bench.outcome(() -> x.end(true, -1));
        Bench.outcome(() -> x.end(false, 8193));
        Bench.outcome(() -> x.end(true, 8192));
        Bench.outcome(() -> x.pair(-1, true));
        Bench.outcome(() -> x.pair(300, false));
        Bench.outcome(() -> x.value(true, 0, 5));
        Bench.outcome(() -> x.value(false, 1000, 0));
        Bench.outcome(() -> x.alike(0, -1));
        Bench.outcome(() -> x.matches(-1, 0));
        Bench.outcome(() -> x.matches(0, 0));
        Bench.outcome(() -> x.matches(4, 5));
        Bench.outcome(() -> x.count(4));
    }

    private static void refusedCallsChangeNothing() {
        String[] texts = {"[1,2", "{\"items\":{\"pattern\":\"^[a-c]+$\"},\"maxItems\":1}", "[\"a\",\"d\",[\"(\"],\"(\"]", "5",
            "[1]", "{\"$ref\":\"#/x\"}", "true", "{}x"};
        for (int first = 0; first < texts.length; first++) {
            for (int second = 0; second < texts.length; second++) {
                Bench plain = new Bench();
                Bench refused = new Bench();
                String told = "";
                String alsoTold = "";
                for (int step = 0; step < 3; step++) {
                    boolean schema = step == 1;
                    String text = texts[step == 0 ? first : step == 1 ? second : (first + second) % texts.length];
                    told += run(plain, schema, text, false);
                    alsoTold += run(refused, schema, text, true);
                }
                Bench.same("with refused calls " + first + " " + second, alsoTold, told);
            }
        }
    }

    private static String run(Bench bench, boolean schema, String text, boolean refused) {
        SchemaJudge x = bench.judge;
        byte[] octets = text.getBytes(StandardCharsets.UTF_8);
        StringBuilder told = new StringBuilder();
        bench.feed(octets);
        refuseIf(refused, x);
        told.append(Bench.outcome(() -> x.end(schema, octets.length))).append('|');
        refuseIf(refused, x);
        told.append(state(bench)).append('|').append(Bench.outcome(x::check)).append('|');
        refuseIf(refused, x);
        told.append(state(bench)).append('|').append(Bench.outcome(x::validate)).append('|');
        refuseIf(refused, x);
        told.append(state(bench)).append('|').append(x.feed(0x20202020, 0x20202020, 0x20202020, 0x20202020,
            0x20202020)).append('|');
        refuseIf(refused, x);
        told.append(Bench.outcome(() -> x.end(!schema, 20))).append(x.wrong()).append('\n');
        return told.toString();
    }

    private static void refuseIf(boolean refused, SchemaJudge x) {
        if (refused) {
            refuse(x);
        }
    }

    private static void fiveHundredAndTwelveCalls() {
        SchemaJudge x = new SchemaJudge();
        // {"type":"integer"}, 18 octets; then [1,1.5]: 7
        x.feed(0x7B227479, 0x7065223A, 0x22696E74, 0x65676572, 0x227D0000);
        Bench.same("SCHEMA", x.end(true, 18), 3);
        Bench.same("check", x.check(), 0);
        int calls = 3;
        while (calls + 4 <= 508) {
            boolean whole = calls % 3 == 0;
            x.feed(whole ? 0x312E3020 : 0x312E3520, 0, 0, 0, 0);
            Bench.same("INSTANCE", x.end(false, 4), 1);
            Bench.same("call " + calls, x.validate(), whole);
            Bench.same("pairs", x.pairs(), whole ? 0 : 1);
            calls += 4;
        }
        while (calls < 512) {
            Bench.same("call " + calls, x.count(0), 3);
            calls++;
        }
    }
}
