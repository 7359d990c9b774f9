import java.util.NoSuchElementException;

/** Promises 17 to 25: heat, degrees, the case, sensors, trips, the fan and heat from outside; and power. */
public final class HeatTest {
    private static final Check check = new Check("HeatTest");
    private static final Class<IndexOutOfBoundsException> INDEX = IndexOutOfBoundsException.class;
    private static final Class<IllegalArgumentException> ARGUMENT = IllegalArgumentException.class;

    public static void main(String[] args) {
        noSuchCore();
        heatComesFromOutside();
        powerOfABusyCore();
        powerOfAnIdleCore();
        powerOfAFastIdleCore();
        leakByTheDegreesAhead();
        leakInSleep();
        oneCoreBehindTheOther();
        theCaseWarmsColdCores();
        theAirGetsByTheLevelAhead();
        theFanFollowsTheCase();
        aDeadFan();
        aFanThatDiesWhileItBlows();
        sensorsLag();
        sensorsAreLost();
        coresTrip();
        tripsEnd();
        check.finish();
    }

    private static void noSuchCore() {
        Wattgovern x = new Wattgovern();
        x.core(0, 's');
        for (int core : new int[] {-1, 1, 6, Integer.MIN_VALUE, Integer.MAX_VALUE}) {
            check.fails("heat", INDEX, () -> x.heat(core));
            check.fails("degrees", INDEX, () -> x.degrees(core));
            check.fails("sensor", INDEX, () -> x.sensor(core));
            check.fails("lose", INDEX, () -> x.lose(core, true));
            check.fails("isTripped", INDEX, () -> x.isTripped(core));
            check.fails("heatUp", INDEX, () -> x.heatUp(core, 0));
        }
    }

    private static void heatComesFromOutside() {
        Wattgovern x = new Wattgovern();
        x.core(0, 's');
        check.fails("heatUp(0, 0)", ARGUMENT, () -> x.heatUp(0, 0));
        check.fails("heatUp(0, -5)", ARGUMENT, () -> x.heatUp(0, -5));
        check.fails("heatUp(0, 10000)", ARGUMENT, () -> x.heatUp(0, 10000));
        check.same("heatUp by 1", 20, x.heatUp(0, 1));
        check.same("heat", 401, x.heat(0));
        check.same("a twentieth, cut", 20, x.heatUp(0, 18));
        check.same("the next degree", 21, x.heatUp(0, 1));
        check.same("degrees", 21, x.degrees(0));
        for (int i = 1; i <= 9; i++) {
            check.same("heatUp by 9999", (420 + 9999 * i) / 20, x.heatUp(0, 9999));
        }
        check.fails("above 99999", IllegalStateException.class, () -> x.heatUp(0, 9589));
        check.same("heat stays", 90411, x.heat(0));
        check.same("to 99999", 4999, x.heatUp(0, 9588));
        check.fails("above 99999 by 1", IllegalStateException.class, () -> x.heatUp(0, 1));
        check.fails("out of range first", ARGUMENT, () -> x.heatUp(0, 10000));
        check.same("account of it", 99999L - 400, x.account('h'));
        check.same("isSound", true, x.isSound());
    }

    private static void powerOfABusyCore() {
        Wattgovern x = new Wattgovern();
        x.core(0, 'b');
        x.thread(0, 99999, 0);
        x.governor(0, 'f', 1);
        int[] taken = {2, 2, 11 + 2, 11 + 2};
        int[] heat = {402, 404, 417, 430 - 1};
        for (int i = 0; i < taken.length; i++) {
            x.pass(1);
            check.same("taken in tick " + (i + 1), taken[i], x.taken());
            check.same("heat behind tick " + (i + 1), heat[i], x.heat(0));
        }
        x.governor(0, 'f', 2);
        x.pass(3);
        check.same("2 times 620 by 50, and 620 times 22 by 5000", 24 + 2, x.taken());
    }

    private static void powerOfAnIdleCore() {
        Wattgovern x = new Wattgovern();
        x.core(0, 'b');
        x.thread(0, 3, 0);
        x.governor(0, 'f', 1);
        x.pass(3);
        check.same("done", 0, x.work(0));
        check.same("busy as at its beginning", 13, x.taken());
        x.pass(1);
        check.same("560 by 200, and the leak", 2 + 2, x.taken());
        check.same("speed all the same", 1, x.speed(0));
    }

    /** A big core whose thread has just gone to a core of speed 0 on another rail. */
    private static void powerOfAFastIdleCore() {
        for (int speed : new int[] {5, 7}) {
            int age = speed == 7 ? 20 : 0;
            Wattgovern x = new Wattgovern();
            x.core(0, 'b');
            x.core(1, 's');
            x.governor(1, 'f', 0);
            x.thread(0, 99999, 0);
            x.governor(0, 'f', speed);
            x.pass(1);
            if (age > 0) {
                x.wear(0, age * 10);
            }
            x.pass(22);
            check.same("speed", speed, x.speed(0));
            int volts = 500 + 60 * speed + age;
            check.same("volts", volts, x.volts(0));
            int leak = volts * x.degrees(0) / 5000;
            x.thread(1, 10, 0);
            x.move(0, 1);
            check.same("deep", 'd', x.sleep(1));
            x.pass(1);
            leak += x.volts(1) * 20 / 5000;
            check.same("by 200, cut", (speed == 7 ? 32 : 20) + leak, x.taken());
        }
    }

    private static void leakByTheDegreesAhead() {
        Wattgovern x = new Wattgovern();
        x.core(0, 's');
        x.heatUp(0, 599);
        x.pass(1);
        check.same("49 degrees: 500 times 49 by 5000", 4, x.taken());
        check.same("then 50 less 20 to the case", 999 + 4 - 30, x.heat(0));
    }

    private static void leakInSleep() {
        Wattgovern x = new Wattgovern();
        x.core(0, 's');
        x.pass(2);
        check.same("awake", 2, x.taken());
        x.pass(1);
        check.same("light: half", 1, x.taken());
        x.heatUp(0, 1400);
        x.pass(1);
        check.same("light: half of 9, cut", 4, x.taken());
        x.thread(0, 10, 0);
        x.pass(1);
        check.same("waking", 'w', x.sleep(0));
        check.same("waking: all of 525 times 86 by 5000", 9, x.taken());
        Wattgovern deep = new Wattgovern();
        deep.core(0, 's');
        deep.pass(9);
        deep.heatUp(0, 1000);
        deep.pass(1);
        check.same("deep: nothing", 0, deep.taken());
        check.same("deep cores cool all the same", 1000 + 400 + 2 * 2 + 7 - 50, deep.heat(0));
    }

    /** Core 0 of 99999 heats up the case, so that core 1 gets some of it in the same tick. */
    private static void oneCoreBehindTheOther() {
        Wattgovern x = new Wattgovern();
        x.core(0, 's');
        x.core(1, 's');
        for (int i = 0; i < 9; i++) {
            x.heatUp(0, 9999);
        }
        x.heatUp(0, 9608);
        x.pass(1);
        check.same("volts", 520, x.volts(0));
        check.same("leak of 4999 and 20 degrees, and the fan", 519 + 2 + 5, x.taken());
        check.same("core 0 gives 5025 less 20", 100518 - 5005, x.heat(0));
        check.same("core 1 gets 45 less 20", 402 + 25, x.heat(1));
        check.same("12 to the air, and 5", 17L, x.account('a'));
        check.same("case", (4000 + 5005 - 25 - 12) / 200, x.caseDegrees());
        check.same("fan", 1, x.fan());
        check.same("wall", 200L, x.account('w'));
        check.same("battery", 5000 - 326, x.battery());
        check.same("purse", 600 + 60 - 526, x.purse());
        check.same("isSound", true, x.isSound());
    }

    private static void theCaseWarmsColdCores() {
        Wattgovern x = new Wattgovern();
        x.core(0, 's');
        for (int i = 0; i < 8; i++) {
            x.heatUp(0, 9999);
        }
        x.pass(5);
        int late = x.core(1, 's');
        int caseDegrees = x.caseDegrees();
        check.yes("the case is warm", caseDegrees > 40);
        x.pass(1);
        check.yes("a new core is warmed", x.heat(late) > 400 + 2 + 20);
        check.same("isSound", true, x.isSound());
    }

    /** The heat of the case, which no call tells, by what the accounts tell. */
    private static long caseHeat(Wattgovern x, int cores) {
        long heat = 4000 + 400L * cores + x.account('t') + x.account('h') - x.account('a');
        for (int i = 0; i < cores; i++) {
            heat -= x.heat(i);
        }
        return heat;
    }

    private static Wattgovern hotChip(int heats) {
        Wattgovern x = new Wattgovern();
        x.core(0, 's');
        for (int i = 0; i < heats; i++) {
            x.heatUp(0, 9999);
        }
        return x;
    }

    private static void theAirGetsByTheLevelAhead() {
        Wattgovern x = hotChip(9);
        boolean[] seen = new boolean[4];
        for (int i = 0; i < 30; i++) {
            int level = x.fan();
            long airBefore = x.account('a');
            x.pass(1);
            long given = x.account('a') - airBefore - 5 * x.fan();
            long degrees = (caseHeat(x, 1) + given) / 200;
            check.same("given to the air in tick " + i, (degrees - 20) * (level + 1) / 2, given);
            check.same("degrees of the case in tick " + i, (int) (caseHeat(x, 1) / 200), x.caseDegrees());
            seen[level] = true;
        }
        check.yes("all levels seen", seen[0] && seen[1] && seen[2] && seen[3]);
    }

    private static int levelBehind(int level, int degrees) {
        int[] up = {40, 50, 60, Integer.MAX_VALUE};
        int[] down = {Integer.MIN_VALUE, 35, 45, 55};
        return degrees >= up[level] ? level + 1 : degrees < down[level] ? level - 1 : level;
    }

    /** Chips of many heats, so that the case walks slowly over every threshold, up and down. */
    private static void theFanFollowsTheCase() {
        boolean[][] met = new boolean[4][400];
        for (int heat = 3000; heat <= 19800; heat += 200) {
            Wattgovern x = new Wattgovern();
            x.core(0, 's');
            x.heatUp(0, Math.min(heat, 9999));
            if (heat > 9999) {
                x.heatUp(0, heat - 9999);
            }
            int level = 0;
            for (int i = 0; i < 165; i++) {
                x.pass(1);
                int degrees = x.caseDegrees();
                met[level][degrees] = true;
                int due = levelBehind(level, degrees);
                level = x.fan();
                check.same("fan with " + degrees + " degrees", due, level);
            }
        }
        int[][] edges = {{0, 39}, {0, 40}, {1, 49}, {1, 50}, {2, 59}, {2, 60}, {3, 55}, {3, 54}, {2, 45}, {2, 44}, {1, 35}, {1, 34}};
        for (int[] edge : edges) {
            check.yes("level " + edge[0] + " with " + edge[1] + " degrees was met", met[edge[0]][edge[1]]);
        }
    }

    private static void aDeadFan() {
        Wattgovern x = hotChip(9);
        check.same("was not dead", false, x.killFan(true));
        check.same("was dead", true, x.killFan(true));
        x.pass(10);
        check.yes("hot enough", x.caseDegrees() >= 60);
        check.same("stays 0", 0, x.fan());
        check.same("was dead before it is mended", true, x.killFan(false));
        check.same("0 until a tick", 0, x.fan());
        for (int level = 1; level <= 3; level++) {
            x.pass(1);
            check.same("climbs by 1", level, x.fan());
        }
        check.same("is not dead", false, x.killFan(false));
        check.same("mending a sound fan leaves its level", 3, x.fan());
        x.killFan(true);
        check.same("0 at once", 0, x.fan());
    }

    /** A dead fan has the level 0 at once, so the next tick's flow to the air goes by 0. */
    private static void aFanThatDiesWhileItBlows() {
        Wattgovern x = hotChip(9);
        x.pass(8);
        check.same("blows", 3, x.fan());
        x.killFan(true);
        long before = x.account('a');
        x.pass(1);
        long given = x.account('a') - before;
        check.same("given by level 0", ((caseHeat(x, 1) + given) / 200 - 20) / 2, given);
    }

    private static void sensorsLag() {
        Wattgovern x = new Wattgovern();
        x.core(0, 's');
        x.heatUp(0, 1000);
        x.pass(3);
        check.same("20 at first", 20, x.sensor(0));
        int odd = x.degrees(0) % 2 == 0 ? 20 : 0;
        if (odd > 0) {
            x.heatUp(0, odd);
        }
        int degrees = x.degrees(0);
        check.same("odd degrees", 1, degrees % 2);
        x.pass(1);
        check.same("1 less if odd, as of the beginning of tick 4", degrees - 1, x.sensor(0));
        x.pass(3);
        check.same("tells the same until tick 8", degrees - 1, x.sensor(0));
        if (x.degrees(0) % 2 == 1) {
            x.heatUp(0, 20);
        }
        int even = x.degrees(0);
        x.pass(1);
        check.same("even degrees, as of tick 8", even, x.sensor(0));
        int late = x.core(0, 's');
        x.heatUp(late, 1000);
        x.pass(3);
        check.same("20 at first, whenever that is", 20, x.sensor(late));
        x.pass(1);
        check.yes("then its own", x.sensor(late) > 20);
    }

    private static void sensorsAreLost() {
        Wattgovern x = new Wattgovern();
        x.core(0, 's');
        x.core(0, 's');
        x.heatUp(0, 1000);
        check.same("was not lost", false, x.lose(0, true));
        check.same("was lost", true, x.lose(0, true));
        check.fails("sensor", NoSuchElementException.class, () -> x.sensor(0));
        check.same("the other is not lost", 20, x.sensor(1));
        x.pass(3);
        int degrees = x.degrees(0);
        x.pass(1);
        check.fails("sensor", NoSuchElementException.class, () -> x.sensor(0));
        check.same("was lost", true, x.lose(0, false));
        check.same("measured while it was lost", degrees - degrees % 2, x.sensor(0));
        check.same("is found", false, x.lose(0, false));
    }

    private static void coresTrip() {
        Wattgovern x = new Wattgovern();
        x.core(0, 's');
        x.core(0, 's');
        x.heatUp(0, 1599);
        x.heatUp(1, 1600);
        check.same("99", 99, x.degrees(0));
        check.same("100", 100, x.degrees(1));
        x.lose(1, true);
        check.same("as of the last tick", false, x.isTripped(1));
        x.pass(1);
        check.same("99 does not trip", false, x.isTripped(0));
        check.same("100 trips, without a sensor too", true, x.isTripped(1));
    }

    private static void tripsEnd() {
        for (int heat : new int[] {1799, 1800}) {
            Wattgovern x = new Wattgovern();
            x.core(0, 's');
            x.heatUp(0, 1900);
            x.pass(1);
            for (int i = 0; i < 60 && x.heat(0) >= 1799; i++) {
                x.pass(1);
                check.same("tripped all the way down", true, x.isTripped(0));
            }
            x.heatUp(0, heat - x.heat(0));
            x.pass(1);
            check.same("tripped with heat " + heat, heat == 1800, x.isTripped(0));
            x.heatUp(0, 1999 - x.heat(0));
            x.pass(1);
            check.same("99 keeps what was", heat == 1800, x.isTripped(0));
        }
    }
}
