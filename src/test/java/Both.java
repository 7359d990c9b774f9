import java.lang.reflect.InvocationTargetException;
import java.lang.reflect.Method;
import java.math.BigInteger;
import java.util.Arrays;
import java.util.Comparator;

/** The class and PlainModel side by side: each call goes to both, and their answers must agree. */
final class Both {
    static final Method[] METHODS = Arrays.stream(Wattgovern.class.getDeclaredMethods())
            .filter(m -> java.lang.reflect.Modifier.isPublic(m.getModifiers()))
            .sorted(Comparator.comparing(Method::getName))
            .toArray(Method[]::new);

    final Wattgovern chip = new Wattgovern();
    final PlainModel model = new PlainModel();
    private final Check check;
    private final String name;
    private int calls = 0;
    private boolean agree = true;

    Both(Check check, String name) {
        this.check = check;
        this.name = name;
    }

    boolean agree() {
        return agree;
    }

    static Method named(String name) {
        for (Method method : METHODS) {
            if (method.getName().equals(name)) {
                return method;
            }
        }
        throw new AssertionError(name);
    }

    /** What the class answered; only the first difference is told, as the others mostly follow from it. */
    Object call(String method, Object... given) {
        return call(named(method), given);
    }

    Object call(Method method, Object... given) {
        calls++;
        try {
            Method twin = PlainModel.class.getDeclaredMethod(method.getName(), method.getParameterTypes());
            Object due = answer(model, twin, given);
            Object got = answer(chip, method, given);
            if (agree && !due.equals(got)) {
                agree = false;
                check.same(name + ", call " + calls + ", " + method.getName() + Arrays.toString(given), due, got);
            }
            return got;
        } catch (ReflectiveOperationException broken) {
            throw new AssertionError(broken);
        }
    }

    /** The answer must be this one, and the model's. */
    void is(Object due, String method, Object... given) {
        check.same(name + ": " + method + Arrays.toString(given), due, call(method, given));
    }

    /** The call must throw exactly this class, and change nothing that can be asked. */
    void refuses(Class<? extends RuntimeException> due, String method, Object... given) {
        String before = View.of(chip);
        is(due, method, given);
        check.same(name + ": all that can be asked behind " + method + Arrays.toString(given), before, View.of(chip));
    }

    void pass(int ticks) {
        for (int left = ticks; left > 0; left -= 100) {
            call("pass", Math.min(left, 100));
        }
    }

    /** The heat of the case, which no call tells: the checksum has it, and 31 has an inverse in a long. */
    long caseHeat(int cores, int threads) {
        long sum = 7;
        for (int core = 0; core < cores; core++) {
            sum = 31 * sum + chip.speed(core);
            sum = 31 * sum + chip.heat(core);
        }
        for (int thread = 0; thread < threads; thread++) {
            sum = 31 * sum + chip.work(thread);
        }
        long inverse = BigInteger.valueOf(31).modInverse(BigInteger.ONE.shiftLeft(64)).longValue();
        return (chip.checksum() - chip.battery()) * inverse - 31 * sum;
    }

    /** Asks all that can be asked without a change. */
    void askAll(int cores, int threads) {
        for (Method method : METHODS) {
            Class<?>[] types = method.getParameterTypes();
            boolean isAsking = !method.getName().equals("drop") && !method.getName().equals("pass");
            if (types.length == 0 && isAsking) {
                call(method);
            }
        }
        String ofCores = "speed wanted clamp sleep isBusy heat degrees sensor isTripped age isRetired";
        for (int core = 0; core < cores; core++) {
            for (String ask : ofCores.split(" ")) {
                call(ask, core);
            }
            call("need", core, 4);
        }
        for (int thread = 0; thread < threads; thread++) {
            call("work", thread);
            call("isCold", thread);
        }
        for (int rail = 0; rail < 3; rail++) {
            call("volts", rail);
        }
        for (char kind : "wbohat".toCharArray()) {
            call("account", kind);
        }
    }

    private static Object answer(Object target, Method method, Object[] given) throws ReflectiveOperationException {
        method.setAccessible(true);
        try {
            return method.invoke(target, given);
        } catch (InvocationTargetException thrown) {
            return thrown.getCause().getClass();
        }
    }
}
