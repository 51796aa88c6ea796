/** Promises 1 to 9, 13 and 14: what the calls answer in each state, and what they throw first. */
public final class FaceTest {
    private static final String INDEX = "IndexOutOfBoundsException";
    private static final String ARGUMENT = "IllegalArgumentException";
    private static final String STATE = "IllegalStateException";

    public static void main(String[] args) {
        newObject();
        feeding();
        ending();
        endRefused();
        faultOfTheLatestCheck();
        validating();
        pairsStay();
        questions();
        counts();
        Bench.finish();
    }

    private static void newObject() {
        SchemaJudge x = new SchemaJudge();
        Bench.same("wrong", x.wrong(), -1);
        Bench.same("fault", x.fault(), -1);
        Bench.same("pairs", x.pairs(), 0);
        for (int what = 0; what < 4; what++) {
            Bench.same("count " + what, x.count(what), 0);
        }
        Bench.same("check", Bench.outcome(x::check), STATE);
        Bench.same("validate", Bench.outcome(x::validate), STATE);
        Bench.same("pair", Bench.outcome(() -> x.pair(0, false)), INDEX);
        Bench.same("value", Bench.outcome(() -> x.value(false, 0, 0)), INDEX);
        Bench.same("value of the schema", Bench.outcome(() -> x.value(true, 0, 0)), INDEX);
        Bench.same("alike", Bench.outcome(() -> x.alike(0, 0)), INDEX);
        Bench.same("matches", Bench.outcome(() -> x.matches(0, 0)), INDEX);
    }

    private static void feeding() {
        SchemaJudge x = new SchemaJudge();
        for (int i = 1; i <= 410; i++) {
            Bench.same("feed " + i, x.feed(0x20202020, 0x20202020, 0x20202020, 0x20202020, 0x20202020), 20 * i);
        }
        Bench.same("feed 411", Bench.outcome(() -> x.feed(0, 0, 0, 0, 0)), INDEX);
        Bench.same("8,193 octets", Bench.outcome(() -> x.end(false, 8193)), INDEX);
        Bench.same("all blanks", Bench.outcome(() -> x.end(false, 8192)), ARGUMENT);
        Bench.same("all blanks are wrong at the end", x.wrong(), 8192);
        Bench.same("feed begins again", x.feed(0x31FFFFFF, -1, -1, -1, -1), 20);
        Bench.same("the highest octet is first", x.end(false, 1), 1);
        x.feed(0x5B312C32, 0x2C332C34, 0x2C352C36, 0x2C372C38, 0x2C39205D);
        Bench.same("five numbers, four octets each", x.end(false, 20), 10);
        Bench.same("the last octet", x.value(false, 9, 1), 17);
    }

    private static void ending() {
        Bench bench = new Bench();
        SchemaJudge x = bench.judge;
        bench.feed("[1,2]".getBytes());
        Bench.same("below 0", Bench.outcome(() -> x.end(false, -1)), INDEX);
        Bench.same("more than was fed", Bench.outcome(() -> x.end(false, 21)), INDEX);
        Bench.same("all stays", x.end(false, 5), 3);
        Bench.same("nothing is fed then", Bench.outcome(() -> x.end(false, 1)), INDEX);
        Bench.same("the instance stays", x.count(1), 3);
        Bench.same("no octets", Bench.outcome(() -> x.end(false, 0)), ARGUMENT);
        Bench.same("no octets are wrong at 0", x.wrong(), 0);
        Bench.same("no instance then", x.count(1), 0);
        bench.feed("{}".getBytes());
        Bench.same("the schema", x.end(true, 2), 1);
        Bench.same("wrong of the latest text", x.wrong(), -1);
        Bench.same("no instance yet", x.count(1), 0);
    }

    private static void endRefused() {
        Bench bench = new Bench();
        SchemaJudge x = bench.judge;
        bench.schema("{\"type\":1}");
        bench.check();
        bench.feed("{}".getBytes());
        Bench.same("refused", Bench.outcome(() -> x.end(true, 30)), INDEX);
        Bench.same("the fault stays", x.fault(), 2);
        // What was fed stays in front of what is fed now.
        Bench.same("wrong", bench.octets("x"), "wrong at 1");
        Bench.same("the schema stays", x.count(0), 3);
        Bench.same("the fault stays still", x.fault(), 2);
        Bench.same("wrong schema", bench.schema("x"), "wrong at 0");
        Bench.same("no schema", Bench.outcome(x::check), STATE);
        Bench.same("no fault", x.fault(), -1);
    }

    private static void faultOfTheLatestCheck() {
        Bench bench = new Bench();
        bench.schema("{\"type\":1}");
        Bench.same("not checked", bench.judge.fault(), -1);
        Bench.same("checked", bench.check(), "1 at 2");
        Bench.same("checked again", bench.check(), "1 at 2");
        bench.instance("1");
        Bench.same("an instance changes nothing", bench.judge.fault(), 2);
        bench.schema("{\"type\":2}");
        Bench.same("another schema", bench.judge.fault(), -1);
        bench.schema("true");
        Bench.same("a good one", bench.check(), "0 at -1");
    }

    private static void validating() {
        Bench bench = new Bench();
        SchemaJudge x = bench.judge;
        bench.instance("1");
        Bench.same("no schema", Bench.outcome(x::validate), STATE);
        bench.instance("");
        bench.schema("true");
        bench.check();
        Bench.same("no instance", Bench.outcome(x::validate), STATE);
        bench.instance("1");
        Bench.same("both", Bench.outcome(x::validate), "true");
        bench.schema("true");
        Bench.same("not checked", Bench.outcome(x::validate), STATE);
        bench.check();
        Bench.same("checked", Bench.outcome(x::validate), "true");
        bench.schema("5");
        Bench.same("a fault", bench.check(), "1 at 0");
        Bench.same("with a fault", Bench.outcome(x::validate), STATE);
        bench.schema("true");
        bench.check();
        bench.instance("[");
        Bench.same("no instance again", Bench.outcome(x::validate), STATE);
    }

    private static void pairsStay() {
        Bench bench = new Bench();
        SchemaJudge x = bench.judge;
        bench.schema("{\"items\":false}");
        bench.check();
        bench.instance("[1]");
        Bench.same("pairs", bench.validate(), "bad 0:2 1:2");
        bench.schema("wrong");
        bench.instance("[[");
        Bench.same("validate", Bench.outcome(x::validate), STATE);
        Bench.same("a call that throws changes nothing", x.pairs(), 2);
        Bench.same("pair 1", x.pair(1, false), 1);
        Bench.same("pair 1, keyword", x.pair(1, true), 2);
        Bench.same("pair 2", Bench.outcome(() -> x.pair(2, true)), INDEX);
        Bench.same("pair -1", Bench.outcome(() -> x.pair(-1, true)), INDEX);
        Bench.same("count 2", x.count(2), 2);
        Bench.same("count 3", x.count(3), 2);
        bench.schema("true");
        bench.check();
        bench.instance("1");
        Bench.same("the next one", bench.validate(), "good");
        Bench.same("count 2", x.count(2), 1);
        Bench.same("count 3", x.count(3), 1);
    }

    private static void questions() {
        Bench bench = new Bench();
        SchemaJudge x = bench.judge;
        Bench.same("first the one named first", Bench.outcome(() -> x.value(false, 0, 5)), ARGUMENT);
        Bench.same("value -1", Bench.outcome(() -> x.value(false, 0, -1)), ARGUMENT);
        bench.instance("[\"a\",\"(\",1]");
        Bench.same("value of none", Bench.outcome(() -> x.value(false, 4, 0)), INDEX);
        Bench.same("value of -1", Bench.outcome(() -> x.value(false, -1, 0)), INDEX);
        Bench.same("alike 4", Bench.outcome(() -> x.alike(0, 4)), INDEX);
        Bench.same("alike -1", Bench.outcome(() -> x.alike(-1, 0)), INDEX);
        Bench.same("matches 4", Bench.outcome(() -> x.matches(4, 2)), INDEX);
        Bench.same("matches -1", Bench.outcome(() -> x.matches(3, -1)), INDEX);
        Bench.same("a number is no string", Bench.outcome(() -> x.matches(3, 1)), ARGUMENT);
        Bench.same("a number is no pattern", Bench.outcome(() -> x.matches(1, 3)), ARGUMENT);
        Bench.same("no pattern", Bench.outcome(() -> x.matches(1, 2)), ARGUMENT);
        Bench.same("a pattern", Bench.outcome(() -> x.matches(2, 1)), "false");
    }

    private static void counts() {
        SchemaJudge x = new SchemaJudge();
        Bench.same("count 4", Bench.outcome(() -> x.count(4)), ARGUMENT);
        Bench.same("count -1", Bench.outcome(() -> x.count(-1)), ARGUMENT);
    }
}
