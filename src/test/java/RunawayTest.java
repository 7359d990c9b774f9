import java.util.Random;

/**
 * Chips that run away: aged cores leak so much that they heat each other, up to some 125 bits of heat. Each answer
 * that fits its type stays the document's one, up to the tick 9999 (promises 9 to 42).
 */
public final class RunawayTest {
    private static final Check check = new Check("RunawayTest");

    public static void main(String[] args) {
        aHeatBeyondALong();
        onToTheLastTick();
        aLargerHeatWithALivingFan();
        beyondALongAndBack();
        beyondAnIntAndCold();
        theMeanRoundsOnce();
        whatIsTooHotIsNotHeated();
        randomRunaways();
        check.finish();
    }

    private static Both oldChip(String name, int cores, boolean dead, int heats) {
        Both both = new Both(check, name);
        for (int i = 0; i < cores; i++) {
            both.call("core", 0, 'b');
        }
        for (int i = 0; i < cores; i++) {
            both.call("thread", i, 99999, 0);
        }
        both.call("killFan", dead);
        for (int i = 0; i < 10 * cores; i++) {
            both.call("wear", i / 10, 999);
        }
        for (int i = 0; i < heats * cores; i++) {
            both.call("heatUp", i / heats, 9999);
        }
        return both;
    }

    /** The run that issue 5 tells, each number written out. */
    private static void aHeatBeyondALong() {
        Wattgovern x = oldChip("tick 5316", 6, true, 0).chip;
        for (int i = 1; i <= 53; i++) {
            check.same("pass(100)", 100 * i, x.pass(100));
        }
        check.same("pass(15)", 5315, x.pass(15));
        check.same("account('w') ahead", 1027893L, x.account('w'));
        check.same("pass(1)", 5316, x.pass(1));
        check.same("account('w')", 1028093L, x.account('w'));
        check.same("account('b')", 5000L, x.account('b'));
        check.same("purse", 0, x.purse());
        check.same("battery", 0, x.battery());
        check.same("isSound", true, x.isSound());
        check.same("the ladder wants", 1, x.wanted(0));
        check.same("clamp", 'r', x.clamp(0));
        check.same("speed", 0, x.speed(0));
        x.governor(0, 'f', 0);
        x.pass(1);
        check.same("clamp of one that wants nothing", '-', x.clamp(0));
        check.same("isTripped", true, x.isTripped(0));
    }

    private static void onToTheLastTick() {
        Both both = oldChip("tick 9999", 6, true, 0);
        for (int i = 0; i < 99; i++) {
            both.call("pass", 100);
            both.askAll(6, 6);
        }
        check.same("the last tick", 9999, both.call("pass", 99));
        both.askAll(6, 6);
        check.yes("agrees all the way", both.agree());
        check.yes("far beyond a long", both.model.bitsOfHeat() > 110);
        Wattgovern x = both.chip;
        check.same("account('w')", 1027893L + (9999 - 5315) * 200, x.account('w'));
        check.same("account('b')", 5000L, x.account('b'));
        check.same("account('h')", 0L, x.account('h'));
        check.same("purse", 0, x.purse());
        check.same("battery", 0, x.battery());
        check.same("fan", 0, x.fan());
        check.same("isSound", true, x.isSound());
        for (int core = 0; core < 6; core++) {
            check.same("age", both.model.age(core), x.age(core));
            check.same("isRetired", true, x.isRetired(core));
            check.same("isTripped", true, x.isTripped(core));
            check.same("sleep", 'a', x.sleep(core));
            check.same("need", 500 + x.age(core) + 25, x.need(core, 0));
        }
        check.fails("no tick 10000", IllegalStateException.class, () -> x.pass(1));
    }

    private static void aLargerHeatWithALivingFan() {
        for (boolean dead : new boolean[] {true, false}) {
            Both both = oldChip("hot from the first tick", 6, dead, 9);
            for (int i = 0; i < 99; i++) {
                both.call("pass", 100);
                both.askAll(6, 6);
            }
            both.call("pass", 99);
            both.askAll(6, 6);
            check.yes("agrees all the way", both.agree());
            check.yes("beyond a long", both.model.bitsOfHeat() > 70);
            check.same("fan", dead ? 0 : 3, both.chip.fan());
            check.same("isSound", true, both.chip.isSound());
        }
    }

    /** The work goes to a young core and the old ones sleep, so that all cools down to what an int holds. */
    private static void beyondALongAndBack() {
        Both both = oldChip("and back", 5, true, 9);
        for (int i = 0; i < 56; i++) {
            both.call("pass", 100);
        }
        check.yes("beyond a long", both.model.bitsOfHeat() >= 63);
        both.call("killFan", false);
        both.call("core", 1, 's');
        for (int i = 0; i < 5; i++) {
            both.call("move", i, 5);
        }
        for (int i = 0; i < 43; i++) {
            both.call("pass", 100);
            both.askAll(6, 5);
        }
        both.call("pass", 99);
        both.askAll(6, 5);
        check.yes("agrees all the way", both.agree());
        Wattgovern x = both.chip;
        check.yes("an int holds it again", both.model.bitsOfHeat() < 31);
        check.same("degrees of a sleeper", x.heat(0) / 20, x.degrees(0));
        check.same("degrees of the one that works", x.heat(5) / 20, x.degrees(5));
        check.same("owed", x.taken() - 200, x.owed());
        check.yes("owed, and not below 0", x.owed() > 0);
        check.same("isSound", true, x.isSound());
    }

    /** Sooner turned, the chip comes back to where trips end and the fan stands still. */
    private static void beyondAnIntAndCold() {
        Both both = oldChip("and cold", 5, true, 9);
        while (both.model.bitsOfHeat() < 40) {
            both.call("pass", 100);
        }
        both.askAll(5, 5);
        check.yes("the degrees are beyond an int", both.model.bitsOfHeat() - 6 > 32);
        both.call("killFan", false);
        both.call("core", 1, 's');
        for (int i = 0; i < 5; i++) {
            both.call("move", i, 5);
        }
        Wattgovern x = both.chip;
        while (both.agree() && x.pass(5) < 9990) {
            both.model.pass(5);
            both.askAll(6, 5);
        }
        both.model.pass(5);
        check.yes("agrees all the way", both.agree());
        check.same("the fan", 0, x.fan());
        for (int core = 0; core < 6; core++) {
            check.same("isTripped", false, x.isTripped(core));
            check.yes("degrees", x.degrees(core) < 80);
            check.same("need", 500 + x.age(core), x.need(core, 0));
        }
        check.same("owed", 0, x.owed());
        check.same("purse", 600, x.purse());
        check.same("battery", 5000, x.battery());
        check.same("isSound", true, x.isSound());
        check.yes("at rest", x.heatUp(0, 1) < 80);
    }

    /** The mean is written out from the heats while these fit, and beyond a double's 53 bits by the model. */
    private static void theMeanRoundsOnce() {
        Both both = oldChip("mean", 3, true, 9);
        boolean beyondDouble = false;
        for (int i = 0; i < 99; i++) {
            both.call("pass", 100);
            both.call("meanDegrees");
            beyondDouble = beyondDouble || both.model.bitsOfHeat() > 60;
            if (both.model.bitsOfHeat() < 31) {
                Wattgovern x = both.chip;
                long sum = (long) x.degrees(0) + x.degrees(1) + x.degrees(2);
                check.same("mean by the degrees", (double) sum / 3.0, x.meanDegrees());
            }
        }
        check.yes("agrees", both.agree());
        check.yes("more bits than a double has", beyondDouble);
    }

    private static void whatIsTooHotIsNotHeated() {
        Wattgovern x = oldChip("too hot", 6, true, 9).chip;
        x.pass(100);
        while (x.heat(0) < 100000) {
            x.pass(100);
        }
        for (int i = 0; i < 50; i++) {
            for (int core = 0; core < 6; core++) {
                int hot = core;
                check.fails("heatUp", IllegalStateException.class, () -> x.heatUp(hot, 1));
            }
            check.fails("heatUp by 9999", IllegalStateException.class, () -> x.heatUp(0, 9999));
            check.fails("heatUp by 10000", IllegalArgumentException.class, () -> x.heatUp(0, 10000));
            x.pass(100);
        }
        check.same("account('h')", 6 * 9 * 9999L, x.account('h'));
        check.same("isSound", true, x.isSound());
    }

    private static void randomRunaways() {
        for (int run = 0; run < 40; run++) {
            Random random = new Random(run);
            int cores = 3 + random.nextInt(4);
            Both both = oldChip("random runaway " + run, cores, random.nextInt(3) > 0, random.nextInt(10));
            for (int i = 0; i < 140; i++) {
                oneRandomCall(both, random, cores);
                both.call("pass", 1 + random.nextInt(100));
                if (i % 4 == 0) {
                    both.askAll(cores, cores);
                }
            }
            check.yes("random runaway " + run, both.agree() && both.chip.isSound());
        }
    }

    private static void oneRandomCall(Both both, Random random, int cores) {
        switch (random.nextInt(12)) {
            case 0:
                both.call("move", random.nextInt(cores), random.nextInt(cores));
                break;
            case 1:
                both.call("killFan", random.nextInt(4) > 0);
                break;
            case 2:
                both.call("wall", random.nextInt(1000));
                break;
            case 3:
                both.call("lose", random.nextInt(cores), random.nextBoolean());
                break;
            case 4:
                both.call("governor", random.nextInt(cores), "flw".charAt(random.nextInt(3)), random.nextInt(8));
                break;
            case 5:
                both.call("heatUp", random.nextInt(cores), 1 + random.nextInt(9999));
                break;
            default:
                both.call("checksum");
        }
    }
}
