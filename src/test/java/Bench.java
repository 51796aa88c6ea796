import java.nio.charset.StandardCharsets;

/** One SchemaJudge with the calls that tests make again and again; what fails is counted and printed. */
final class Bench {
    private static int compared = 0;
    private static int failed = 0;

    final SchemaJudge judge;

    Bench() {
        this(new SchemaJudge());
    }

    Bench(SchemaJudge judge) {
        this.judge = judge;
    }

    static void same(String what, Object got, Object due) {
        compared++;
        if (!String.valueOf(got).equals(String.valueOf(due))) {
            failed++;
            System.out.println(what + " answered " + got + ", due is " + due);
        }
    }

    /** Ends a test's main method. */
    static void finish() {
        System.out.println(compared + " answers compared, " + failed + " not as due");
        if (failed > 0 || compared == 0) {
            System.exit(1);
        }
    }

    static String times(int n, String text) {
        return text.repeat(n);
    }

    private static int word(byte[] octets, int at) {
        int word = 0;
        for (int i = at; i < at + 4; i++) {
            word = word << 8 | (i < octets.length ? octets[i] & 255 : 0);
        }
        return word;
    }

    void feed(byte[] octets) {
        for (int i = 0; i < octets.length; i += 20) {
            judge.feed(word(octets, i), word(octets, i + 4), word(octets, i + 8), word(octets, i + 12), word(octets, i + 16));
        }
    }

    private String read(boolean schema, byte[] octets) {
        feed(octets);
        try {
            int values = judge.end(schema, octets.length);
            same("wrong() of a right text", judge.wrong(), -1);
            same("count() of a right text", judge.count(schema ? 0 : 1), values);
            return String.valueOf(values);
        } catch (IllegalArgumentException e) {
            same("count() of a wrong text", judge.count(schema ? 0 : 1), 0);
            return "wrong at " + judge.wrong();
        }
    }

    /** Reads a SCHEMA: how many VALUES, or where it is WRONG. */
    String schema(String text) {
        return read(true, text.getBytes(StandardCharsets.UTF_8));
    }

    /** Reads an INSTANCE: how many VALUES, or where it is WRONG. */
    String instance(String text) {
        return read(false, text.getBytes(StandardCharsets.UTF_8));
    }

    /** Reads an INSTANCE of octets that the characters are. */
    String octets(String text) {
        return read(false, text.getBytes(StandardCharsets.ISO_8859_1));
    }

    /** The FAULT and its VALUE. */
    String check() {
        int fault = judge.check();
        return fault + " at " + judge.fault();
    }

    /** good or bad, or limit, and the PAIRS. */
    String validate() {
        StringBuilder told = new StringBuilder();
        try {
            told.append(judge.validate() ? "good" : "bad");
        } catch (UnsupportedOperationException e) {
            told.append("limit");
        }
        for (int k = 0; k < judge.pairs(); k++) {
            told.append(' ').append(judge.pair(k, false)).append(':').append(judge.pair(k, true));
        }
        return told.toString();
    }

    /** Checks a SCHEMA in a new object. */
    static void checks(String schema, String due) {
        Bench bench = new Bench();
        bench.schema(schema);
        same("check() of " + schema, bench.check(), due);
    }

    /** Evaluates an INSTANCE by a SCHEMA in a new object. */
    static void judges(String schema, String instance, String due) {
        Bench bench = new Bench();
        bench.schema(schema);
        same("check() of " + schema, bench.check(), "0 at -1");
        bench.instance(instance);
        same(schema + " on " + instance, bench.validate(), due);
    }

    /** The five answers of value() for a VALUE. */
    String value(boolean schema, int v) {
        StringBuilder told = new StringBuilder();
        for (int what = 0; what < 5; what++) {
            told.append(what == 0 ? "" : " ").append(judge.value(schema, v, what));
        }
        return told.toString();
    }

    /** A call whose exception is looked at. */
    interface Call {
        Object run();
    }

    static String outcome(Call call) {
        try {
            return String.valueOf(call.run());
        } catch (RuntimeException e) {
            return e.getClass().getSimpleName();
        }
    }
}
