import java.lang.reflect.Method;
import java.util.Random;

/** Many runs of random calls, right and wrong ones, on the class and on PlainModel; all answers must agree. */
public final class RandomRunsTest {
    private static final Check check = new Check("RandomRunsTest");
    private static final int RUNS = 1500;
    private static final int CALLS = 512;
    private static final int[] WILD = {-1, 0, 8, 1000, 100000, Integer.MIN_VALUE, Integer.MAX_VALUE};

    public static void main(String[] args) {
        for (int run = 0; run < RUNS; run++) {
            oneRun(run);
        }
        check.finish();
    }

    private static void oneRun(int run) {
        Random random = new Random(run);
        Both both = new Both(check, "run " + run);
        int mood = run % 4;
        for (int i = 0; i < CALLS && both.agree(); i++) {
            Method method = choose(random, i, mood);
            both.call(method, arguments(random, method, mood));
        }
        check.yes("run " + run, both.agree() && both.chip.isSound());
    }

    /** Cores and threads come early and ticks often, so that runs meet much of the chip. */
    private static Method choose(Random random, int call, int mood) {
        int dice = random.nextInt(100);
        if (call < 12 && dice < 80) {
            return Both.named(dice < 40 ? "core" : "thread");
        }
        if (dice < 22) {
            return Both.named("pass");
        }
        if (dice < 22 + 6 * mood) {
            String[] rough = {"heatUp", "wear", "wall", "feed", "move", "killFan", "request", "governor"};
            return Both.named(rough[random.nextInt(rough.length)]);
        }
        return Both.METHODS[random.nextInt(Both.METHODS.length)];
    }

    private static Object[] arguments(Random random, Method method, int mood) {
        Class<?>[] types = method.getParameterTypes();
        Object[] given = new Object[types.length];
        for (int i = 0; i < types.length; i++) {
            if (types[i] == boolean.class) {
                given[i] = random.nextInt(3) == 0;
            } else if (types[i] == char.class) {
                given[i] = letter(random, method.getName());
            } else {
                given[i] = random.nextInt(40) == 0 ? WILD[random.nextInt(WILD.length)] : number(random, method.getName(), i, mood);
            }
        }
        return given;
    }

    private static char letter(Random random, String name) {
        String all = name.equals("core") ? "sbsbsbx" : name.equals("governor") ? "flwflwflwx" : "wbohatwbohatx";
        return all.charAt(random.nextInt(all.length()));
    }

    private static int number(Random random, String name, int place, int mood) {
        switch (name + place) {
            case "core0":
            case "volts0":
                return random.nextInt(25) == 0 ? 3 : random.nextInt(3);
            case "thread1":
            case "feed1":
                return 1 + random.nextInt(random.nextBoolean() ? 40 : 99999);
            case "thread2":
                return random.nextInt(10);
            case "pass0":
                return 1 + random.nextInt(random.nextInt(4) == 0 ? 40 : mood == 2 ? 12 : 5);
            case "heatUp1":
                return 1 + random.nextInt(random.nextBoolean() ? 1500 : 9999);
            case "wear1":
                return 1 + random.nextInt(random.nextBoolean() ? 60 : 999);
            case "wall0":
                return random.nextInt(mood == 3 ? 60 : 1000);
            case "request0":
                return 1 + random.nextInt(60) * random.nextInt(60);
            case "request1":
            case "need1":
            case "governor2":
                return random.nextInt(9);
            case "work0":
            case "isCold0":
            case "feed0":
            case "move0":
                return random.nextInt(8);
            default:
                return random.nextInt(6);
        }
    }
}
