import java.lang.reflect.Constructor;
import java.lang.reflect.Field;
import java.lang.reflect.Method;
import java.math.BigInteger;
import java.util.Random;

/** The whole numbers without a bound inside the class, against BigInteger: carries, borrows, zeros and rounding. */
public final class AmountTest {
    private static final Check check = new Check("AmountTest");
    private static final BigInteger PART = BigInteger.ONE.shiftLeft(32);

    private static Class<?> amount;

    public static void main(String[] args) throws Exception {
        amount = Class.forName("Wattgovern$Amount");
        smallNumbers();
        sumsAndDifferences();
        productsAndQuotients();
        bounds();
        doubles();
        nothingIsTooLarge();
        check.finish();
    }

    private static Object call(Object target, String name, Object... given) throws Exception {
        for (Method method : amount.getDeclaredMethods()) {
            if (method.getName().equals(name)) {
                method.setAccessible(true);
                return method.invoke(target, given);
            }
        }
        throw new AssertionError(name);
    }

    /** Made by its own calls alone, so that it is as a chip would have it. */
    private static Object of(BigInteger value) throws Exception {
        Constructor<?> maker = amount.getDeclaredConstructor();
        maker.setAccessible(true);
        Object made = maker.newInstance();
        Object digit = maker.newInstance();
        String bits = value.toString(2);
        for (int i = 0; i < bits.length(); i++) {
            call(made, "becomeProduct", made, 2);
            call(digit, "become", bits.charAt(i) - '0');
            call(made, "add", digit);
        }
        return made;
    }

    private static BigInteger valueOf(Object made) throws Exception {
        Field field = amount.getDeclaredField("parts");
        field.setAccessible(true);
        BigInteger value = BigInteger.ZERO;
        long[] parts = (long[]) field.get(made);
        for (int i = parts.length - 1; i >= 0; i--) {
            check.yes("a part has 32 bits", parts[i] >= 0 && parts[i] < 1L << 32);
            value = value.multiply(PART).add(BigInteger.valueOf(parts[i]));
        }
        Field usedField = amount.getDeclaredField("used");
        usedField.setAccessible(true);
        int used = (int) usedField.get(made);
        check.yes("used parts end with one above 0", used == 0 ? value.signum() == 0 : parts[used - 1] > 0);
        check.yes("no part behind them", value.bitLength() <= 32 * used);
        return value;
    }

    /** Numbers about the edges of parts, of an int, a long and a double, and others. */
    private static BigInteger[] numbers() {
        Random random = new Random(3);
        BigInteger[] all = new BigInteger[70];
        int[] edges = {0, 1, 5, 31, 32, 33, 53, 54, 61, 62, 63, 64, 65, 95, 96, 127, 128, 200};
        int count = 0;
        for (int edge : edges) {
            for (int more = -1; more <= 1; more++) {
                all[count] = BigInteger.ONE.shiftLeft(edge).add(BigInteger.valueOf(more));
                count++;
            }
        }
        while (count < all.length) {
            all[count] = new BigInteger(1 + random.nextInt(250), random);
            count++;
        }
        return all;
    }

    private static void smallNumbers() throws Exception {
        Object made = of(BigInteger.ONE.shiftLeft(100));
        for (int number : new int[] {0, 1, 20, 99999, Integer.MAX_VALUE, 0}) {
            call(made, "become", number);
            check.same("become", BigInteger.valueOf(number), valueOf(made));
        }
    }

    private static void sumsAndDifferences() throws Exception {
        for (BigInteger one : numbers()) {
            for (BigInteger other : numbers()) {
                Object made = of(one);
                Object more = of(other);
                check.same(one + " < " + other, one.compareTo(other) < 0, call(made, "isLess", more));
                call(made, "add", more);
                check.same(one + " + " + other, one.add(other), valueOf(made));
                call(made, "takeAway", more);
                check.same(one + " again", one, valueOf(made));
                check.same("the other stays", other, valueOf(more));
                call(made, "becomeSame", more);
                check.same("a copy of " + other, other, valueOf(made));
                call(made, "takeAway", more);
                check.same("nothing", BigInteger.ZERO, valueOf(made));
            }
        }
    }

    private static void productsAndQuotients() throws Exception {
        for (BigInteger one : numbers()) {
            for (int by : new int[] {1, 2, 3, 4, 20, 200, 500, 2944, 5000}) {
                Object made = of(BigInteger.ONE.shiftLeft(one.bitLength() % 90));
                call(made, "becomeProduct", of(one), by);
                check.same(one + " * " + by, one.multiply(BigInteger.valueOf(by)), valueOf(made));
                made = of(BigInteger.ONE.shiftLeft(one.bitLength() % 90));
                call(made, "becomeQuotient", of(one), by);
                check.same(one + " / " + by, one.divide(BigInteger.valueOf(by)), valueOf(made));
                made = of(one);
                call(made, "becomeQuotient", made, by);
                check.same("itself, " + one + " / " + by, one.divide(BigInteger.valueOf(by)), valueOf(made));
            }
            for (int by : new int[] {0, -1}) {
                Object made = of(one);
                call(made, "becomeQuotient", made, by);
                check.same("by " + by + " it stays", one, valueOf(made));
            }
        }
    }

    private static void bounds() throws Exception {
        for (BigInteger one : numbers()) {
            Object made = of(one);
            check.same("low bits of " + one, one.longValue(), call(made, "lowBits"));
            for (int most : new int[] {0, 1, 80, 100, 10000, 99999}) {
                check.same(one + " up to " + most, one.min(BigInteger.valueOf(most)).intValue(), call(made, "upTo", most));
            }
        }
        Object zeros = of(BigInteger.ONE.shiftLeft(64).add(BigInteger.TEN));
        check.same("low parts that are small", 100, call(zeros, "upTo", 100));
    }

    private static void doubles() throws Exception {
        for (BigInteger one : numbers()) {
            for (int shift : new int[] {0, 1, 9, 10, 11, 40, 100}) {
                for (int more = -1; more <= 1; more++) {
                    BigInteger value = one.shiftLeft(shift).add(BigInteger.valueOf(more)).abs();
                    check.same("double of " + value, value.doubleValue(), call(of(value), "toDouble"));
                }
            }
        }
        for (int more = -2; more <= 2; more++) {
            BigInteger tie = BigInteger.ONE.shiftLeft(54).add(BigInteger.TWO).shiftLeft(60).add(BigInteger.valueOf(more));
            check.same("about a tie, " + more, tie.doubleValue(), call(of(tie), "toDouble"));
        }
    }

    /** No chip comes so far; but the machine must not throw even then. */
    private static void nothingIsTooLarge() throws Exception {
        BigInteger most = BigInteger.ONE.shiftLeft(512).subtract(BigInteger.ONE);
        Object made = of(most);
        check.same("512 bits", most, valueOf(made));
        call(made, "add", of(BigInteger.ONE));
        check.same("wraps", BigInteger.ZERO, valueOf(made));
        made = of(most);
        call(made, "becomeProduct", made, 2);
        check.same("loses what is above", most.subtract(BigInteger.ONE), valueOf(made));
        theWholeRow(most);
    }

    /** Every call with all parts in use, where a step too far would leave the row. */
    private static void theWholeRow(BigInteger most) throws Exception {
        Object full = of(most);
        Object made = of(BigInteger.ONE);
        call(made, "becomeSame", full);
        check.same("a copy", most, valueOf(made));
        check.same("as large", false, call(made, "isLess", full));
        check.same("larger", false, call(full, "isLess", of(BigInteger.ONE)));
        check.same("less", true, call(of(BigInteger.ONE), "isLess", full));
        call(made, "becomeQuotient", full, 5000);
        check.same("a part of it", most.divide(BigInteger.valueOf(5000)), valueOf(made));
        check.same("as a double", most.doubleValue(), call(full, "toDouble"));
        check.same("up to", 7, call(full, "upTo", 7));
        check.same("low bits", -1L, call(full, "lowBits"));
        call(full, "takeAway", made);
        check.same("the rest", most.subtract(most.divide(BigInteger.valueOf(5000))), valueOf(full));
        call(full, "becomeSame", made);
        check.same("a copy over it", valueOf(made), valueOf(full));
        Object small = of(most);
        call(small, "become", 3);
        check.same("small again", BigInteger.valueOf(3), valueOf(small));
    }
}
