import java.math.BigDecimal;
import java.math.BigInteger;

/** Terms 3: numbers are compared and divided exactly, beside what BigDecimal says. */
public final class NumberTest {
    private static long state = 12345;

    public static void main(String[] args) {
        Bench.judges("{\"multipleOf\":0.01}", "19.99", "good");
        Bench.judges("{\"multipleOf\":0.01}", "0.001", "bad 0:2");
        Bench.judges("{\"multipleOf\":7}", "0", "good");
        Bench.judges("{\"multipleOf\":7}", "-21.0", "good");
        Bench.judges("{\"multipleOf\":1e999}", "1e998", "bad 0:2");
        Bench.judges("{\"multipleOf\":1e-999}", "1e999", "good");
        Bench.judges("{\"multipleOf\":3e-999}", "1e999", "bad 0:2");
        Bench.judges("{\"multipleOf\":" + pow(2, 199) + "}", "1e199", "good");
        Bench.judges("{\"multipleOf\":" + pow(2, 199) + "}", "1e198", "bad 0:2");
        Bench.judges("{\"multipleOf\":" + pow(2, 199) + "}", "1e999", "good");
        Bench.judges("{\"multipleOf\":" + Bench.times(60, "9") + "}", Bench.times(60, "9") + "e3", "good");
        Bench.judges("{\"multipleOf\":" + Bench.times(60, "9") + "}", Bench.times(59, "9") + "8", "bad 0:2");
        Bench.judges("{\"multipleOf\":0.5}", "\"x\"", "good");
        // Nine digits of the rest are just 1 below those of the divisor, or alike with 1 to lend.
        Bench.judges("{\"multipleOf\":1000000001}", "2000000000999999999", "good");
        Bench.judges("{\"multipleOf\":1000000001}", "2000000000999999998", "bad 0:2");
        Bench.judges("{\"multipleOf\":1000000000000000001}", "2000000000000000000999999999999999999", "good");
        Bench.judges("{\"multipleOf\":1000000000000000001}", "2000000000000000000999999999999999998", "bad 0:2");
        for (int i = 0; i < 1500; i++) {
            beside(number(), number());
        }
        for (int i = 0; i < 3000; i++) {
            multiple(odd(1 + next(29)), odd(1 + next(30)));
        }
        Bench.finish();
    }

    /** A whole number of so many digits, most of which are 0, 1 or 9: it lends and carries wherever it can. */
    private static BigInteger odd(int digits) {
        StringBuilder text = new StringBuilder("1");
        for (int i = 1; i < digits; i++) {
            int kind = next(7);
            text.append(kind < 2 ? '0' : kind < 4 ? '9' : kind < 6 ? '1' : (char) ('0' + next(10)));
        }
        return new BigInteger(text.toString());
    }

    /** A product is a whole number of times what it was made of; the numbers beside it are, as BigInteger says. */
    private static void multiple(BigInteger one, BigInteger other) {
        BigInteger product = one.multiply(other);
        for (int step = -1; step <= 1; step++) {
            BigInteger number = product.add(BigInteger.valueOf(step));
            boolean whole = number.mod(one).signum() == 0;
            Bench.judges("{\"multipleOf\":" + one + "}", number.toString(), whole ? "good" : "bad 0:2");
        }
    }

    private static String pow(int base, int n) {
        return BigDecimal.valueOf(base).pow(n).toPlainString();
    }

    private static int next(int bound) {
        state = state * 6364136223846793005L + 1442695040888963407L;
        return (int) Math.floorMod(state >>> 33, (long) bound);
    }

    private static String number() {
        StringBuilder text = new StringBuilder(next(4) == 0 ? "-" : "");
        text.append(next(3) == 0 ? "0" : String.valueOf(1 + next(next(2) == 0 ? 9 : 200)));
        if (next(2) == 0) {
            text.append('.').append(next(2) == 0 ? "0" : "").append(next(60));
        }
        if (next(3) == 0) {
            text.append(next(2) == 0 ? "e" : "E-").append(next(next(3) == 0 ? 90 : 4));
        }
        return text.toString();
    }

    private static void beside(String given, String number) {
        BigDecimal bound = new BigDecimal(given);
        BigDecimal value = new BigDecimal(number);
        int order = value.compareTo(bound);
        String schema = "{\"maximum\":" + given + ",\"exclusiveMaximum\":" + given
            + ",\"minimum\":" + given + ",\"exclusiveMinimum\":" + given + ",\"const\":" + given;
        String due = (order > 0 ? " 0:2" : "") + (order >= 0 ? " 0:4" : "") + (order < 0 ? " 0:6" : "")
            + (order <= 0 ? " 0:8" : "") + (order != 0 ? " 0:10" : "");
        if (bound.signum() > 0) {
            schema += ",\"multipleOf\":" + given;
            due += value.remainder(bound).signum() != 0 ? " 0:12" : "";
        }
        schema += ",\"type\":\"integer\"";
        boolean whole = value.signum() == 0 || value.stripTrailingZeros().scale() <= 0;
        due += whole ? "" : bound.signum() > 0 ? " 0:14" : " 0:12";
        Bench.judges(schema + "}", number, "bad" + due);
    }
}
