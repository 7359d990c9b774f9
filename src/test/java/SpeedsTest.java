/** Promises 9 to 12, 14 to 16: ticks, wishes, clamps, needs, rails and speeds. */
public final class SpeedsTest {
    private static final Check check = new Check("SpeedsTest");
    private static final Class<IndexOutOfBoundsException> INDEX = IndexOutOfBoundsException.class;
    private static final Class<IllegalArgumentException> ARGUMENT = IllegalArgumentException.class;

    public static void main(String[] args) {
        ticksPass();
        noSuchCoreOrRail();
        theVoltageComesAheadOfTheSpeed();
        theLadderClimbsAndFalls();
        theLadderStaysInItsKind();
        byWorkCountsThreads();
        needs();
        railsAreShared();
        aRailStopsAtItsTarget();
        hotCoresNeedMore();
        lostSensorClamps();
        emptyPurseClamps();
        aPurseOfOneIsNotEmpty();
        powerOfOneOwedClamps();
        owedPowerClamps();
        requestsClamp();
        tripsAndAgeClamp();
        sleepersAreClampedAllTheSame();
        busyIsNow();
        check.finish();
    }

    /** A busy core, so that it stays awake. */
    private static Wattgovern busyCore(char kind, int fixed) {
        Wattgovern x = new Wattgovern();
        addBusyCore(x, 0, kind, fixed);
        return x;
    }

    private static int addBusyCore(Wattgovern x, int rail, char kind, int fixed) {
        int core = x.core(rail, kind);
        x.thread(core, 99999, 9);
        x.governor(core, 'f', fixed);
        return core;
    }

    private static void ticksPass() {
        Wattgovern x = new Wattgovern();
        check.fails("pass(0)", ARGUMENT, () -> x.pass(0));
        check.fails("pass(-1)", ARGUMENT, () -> x.pass(-1));
        check.fails("pass(101)", ARGUMENT, () -> x.pass(101));
        check.same("pass(1)", 1, x.pass(1));
        check.same("pass(99)", 100, x.pass(99));
        for (int i = 2; i <= 99; i++) {
            check.same("pass(100)", i * 100, x.pass(100));
        }
        check.fails("pass above 9999", IllegalStateException.class, () -> x.pass(100));
        check.same("pass to 9999", 9999, x.pass(99));
        check.fails("pass above 9999 by 1", IllegalStateException.class, () -> x.pass(1));
        check.fails("pass(101) is out of range first", ARGUMENT, () -> x.pass(101));
        check.fails("pass(most)", ARGUMENT, () -> x.pass(Integer.MAX_VALUE));
    }

    private static void noSuchCoreOrRail() {
        Wattgovern x = busyCore('s', 0);
        for (int core : new int[] {-1, 1, 5, 6, Integer.MIN_VALUE, Integer.MAX_VALUE}) {
            check.fails("speed", INDEX, () -> x.speed(core));
            check.fails("wanted", INDEX, () -> x.wanted(core));
            check.fails("clamp", INDEX, () -> x.clamp(core));
            check.fails("sleep", INDEX, () -> x.sleep(core));
            check.fails("isBusy", INDEX, () -> x.isBusy(core));
            check.fails("need", INDEX, () -> x.need(core, 99));
        }
        for (int rail : new int[] {-1, 3, Integer.MIN_VALUE, Integer.MAX_VALUE}) {
            check.fails("volts", INDEX, () -> x.volts(rail));
        }
    }

    private static void theVoltageComesAheadOfTheSpeed() {
        Wattgovern x = busyCore('b', 2);
        int[] volts = {520, 540, 560, 580, 600, 620, 620};
        int[] speeds = {0, 0, 1, 1, 1, 2, 2};
        for (int i = 0; i < volts.length; i++) {
            x.pass(1);
            check.same("volts in tick " + i, volts[i], x.volts(0));
            check.same("speed in tick " + i, speeds[i], x.speed(0));
            check.same("wanted in tick " + i, 2, x.wanted(0));
            check.same("clamp in tick " + i, '-', x.clamp(0));
        }
        x.governor(0, 'f', 0);
        for (int due : new int[] {600, 580, 560, 540, 520, 500, 500}) {
            x.pass(1);
            check.same("volts fall", due, x.volts(0));
            check.same("speed 0 at once", 0, x.speed(0));
        }
    }

    private static void theLadderClimbsAndFalls() {
        Wattgovern x = new Wattgovern();
        x.core(0, 'b');
        x.thread(0, 11, 0);
        int[] wanted = {0, 1, 1, 1, 2, 2, 2, 3, 1, 0};
        int[] speeds = {0, 0, 0, 1, 1, 1, 2, 2, 1, 0};
        for (int i = 0; i < wanted.length; i++) {
            x.pass(1);
            check.same("ladder wants in tick " + (i + 1), wanted[i], x.wanted(0));
            check.same("ladder speed in tick " + (i + 1), speeds[i], x.speed(0));
        }
        x.pass(1);
        check.same("not below 0", 0, x.wanted(0));
        x.pass(1);
        check.same("still not below 0", 0, x.wanted(0));
    }

    private static void theLadderStaysInItsKind() {
        for (char kind : new char[] {'s', 'b'}) {
            Wattgovern x = new Wattgovern();
            x.core(0, kind);
            x.thread(0, 99999, 9);
            x.wall(999);
            int top = 0;
            for (int i = 0; i < 60; i++) {
                x.pass(1);
                top = Math.max(top, x.wanted(0));
            }
            check.same("the greatest wish of " + kind, kind == 's' ? 4 : 7, top);
        }
    }

    private static void byWorkCountsThreads() {
        Wattgovern x = new Wattgovern();
        x.core(0, 'b');
        x.core(0, 's');
        x.governor(0, 'w', 0);
        x.governor(1, 'w', 0);
        x.pass(1);
        check.same("no thread", 0, x.wanted(0));
        x.thread(0, 3, 0);
        x.thread(1, 9999, 0);
        x.pass(1);
        check.same("1 thread, big", 3, x.wanted(0));
        check.same("1 thread, small", 3, x.wanted(1));
        x.thread(0, 9999, 0);
        x.thread(1, 9999, 0);
        x.pass(1);
        check.same("2 threads, big", 6, x.wanted(0));
        check.same("2 threads, small", 4, x.wanted(1));
        x.thread(0, 9999, 0);
        x.pass(1);
        check.same("3 threads, big", 7, x.wanted(0));
        check.same("thread 0 is done", 0, x.work(0));
        x.pass(1);
        check.same("a thread without work left does not count", 6, x.wanted(0));
        Wattgovern y = new Wattgovern();
        y.core(0, 'b');
        y.governor(0, 'w', 0);
        y.thread(0, 1, 0);
        y.pass(1);
        check.same("a work of 1 counts", 3, y.wanted(0));
    }

    private static void needs() {
        Wattgovern x = new Wattgovern();
        x.core(0, 's');
        x.core(1, 'b');
        check.same("need(0, 0)", 500, x.need(0, 0));
        check.same("need(0, 4)", 740, x.need(0, 4));
        check.same("need(1, 7)", 920, x.need(1, 7));
        check.fails("need(0, 5)", ARGUMENT, () -> x.need(0, 5));
        check.fails("need(0, -1)", ARGUMENT, () -> x.need(0, -1));
        check.fails("need(1, 8)", ARGUMENT, () -> x.need(1, 8));
        x.wear(0, 19);
        check.same("a tenth of wear, cut", 561, x.need(0, 1));
        x.heatUp(1, 1199);
        check.same("79 degrees", 500, x.need(1, 0));
        x.heatUp(1, 1);
        check.same("80 degrees", 525, x.need(1, 0));
        x.wear(1, 999);
        check.same("old and hot", 500 + 120 + 99 + 25, x.need(1, 2));
    }

    private static void railsAreShared() {
        Wattgovern x = new Wattgovern();
        addBusyCore(x, 1, 'b', 1);
        addBusyCore(x, 1, 's', 2);
        addBusyCore(x, 2, 's', 1);
        x.pass(3);
        check.same("the greatest need of two", 560, x.volts(1));
        x.pass(7);
        check.same("rail 0 has no core", 500, x.volts(0));
        check.same("rail 1", 620, x.volts(1));
        check.same("rail 2", 560, x.volts(2));
        check.same("the one that may have 1 has 1", 1, x.speed(0));
        check.same("the one that may have 2 has 2", 2, x.speed(1));
        x.governor(1, 'f', 0);
        x.pass(10);
        check.same("down to the need of the other", 560, x.volts(1));
        check.same("the other keeps its speed", 1, x.speed(0));
    }

    private static void aRailStopsAtItsTarget() {
        Wattgovern x = busyCore('s', 0);
        x.wear(0, 55);
        x.pass(1);
        check.same("5 by age", 505, x.volts(0));
        check.same("0 with enough", 0, x.speed(0));
        x.wear(0, 945);
        x.governor(0, 'f', 1);
        x.pass(1);
        check.same("20 at most", 525, x.volts(0));
        x.pass(6);
        check.same("not yet enough", 645, x.volts(0));
        check.same("so no speed", 0, x.speed(0));
        x.pass(1);
        check.same("660 for 1 with age 100", 660, x.volts(0));
        check.same("now 1", 1, x.speed(0));
        x.governor(0, 'f', 0);
        x.pass(2);
        check.same("20 at most on the way down", 620, x.volts(0));
        x.pass(1);
        check.same("exactly the need", 600, x.volts(0));
    }

    private static void hotCoresNeedMore() {
        Wattgovern x = busyCore('s', 1);
        x.pass(10);
        check.same("cool", 560, x.volts(0));
        x.heatUp(0, 80 * 20 - x.heat(0));
        x.pass(1);
        check.same("hot, 5 short of 585", 580, x.volts(0));
        check.same("falls to 0", 0, x.speed(0));
        check.same("nothing clamps it", '-', x.clamp(0));
    }

    private static void lostSensorClamps() {
        Wattgovern x = busyCore('b', 3);
        x.lose(0, true);
        x.pass(20);
        check.same("2 without a sensor", 2, x.speed(0));
        check.same("letter", 'n', x.clamp(0));
        check.same("wanted stays", 3, x.wanted(0));
        x.governor(0, 'f', 2);
        x.pass(1);
        check.same("2 is no less than 2", '-', x.clamp(0));
        x.governor(0, 'f', 4);
        x.request(1, 2);
        x.pass(1);
        check.same("sensor ahead of request", 'n', x.clamp(0));
        x.request(2, 1);
        x.pass(1);
        check.same("the least, not the first", 'q', x.clamp(0));
        x.lose(0, false);
        x.drop();
        x.pass(1);
        check.same("found", '-', x.clamp(0));
    }

    /** A core 1 beside a hot core 0 on another rail, whose leak alone empties the purse. */
    private static Wattgovern besideAHotCore(int fixed) {
        Wattgovern x = new Wattgovern();
        addBusyCore(x, 0, 's', 4);
        addBusyCore(x, 1, 'b', fixed);
        for (int i = 0; i < 9; i++) {
            x.heatUp(0, 9999);
        }
        return x;
    }

    private static void emptyPurseClamps() {
        Wattgovern x = besideAHotCore(5);
        x.pass(1);
        check.yes("purse not yet empty", x.purse() > 0);
        check.same("no clamp yet", '-', x.clamp(1));
        x.pass(1);
        check.same("purse empty", 0, x.purse());
        check.same("as of the tick ahead", '-', x.clamp(1));
        x.pass(1);
        check.same("now clamped", 'p', x.clamp(1));
        x.request(7, 2);
        x.pass(1);
        check.same("purse ahead of request", 'p', x.clamp(1));
        x.lose(1, true);
        x.pass(2);
        check.same("sensor ahead of purse", 'n', x.clamp(1));
        check.same("speed 2 at most", 2, x.speed(1));
        check.same("trip ahead of all of these", 't', x.clamp(0));
        x.governor(1, 'f', 2);
        x.pass(1);
        check.same("2 wanted, 2 told", '-', x.clamp(1));
    }

    /** Tries heats until the purse has exactly 1 behind the second tick. */
    private static void aPurseOfOneIsNotEmpty() {
        boolean met = false;
        for (int heat = 1; heat <= 9999 && !met; heat += 20) {
            Wattgovern x = new Wattgovern();
            addBusyCore(x, 0, 's', 0);
            addBusyCore(x, 1, 'b', 5);
            for (int i = 0; i < 6; i++) {
                x.heatUp(0, 9999);
            }
            x.heatUp(0, heat);
            x.pass(2);
            if (x.purse() == 1) {
                met = true;
                x.pass(1);
                check.same("1 is not empty", '-', x.clamp(1));
            }
        }
        check.yes("a purse of 1 was met", met);
    }

    private static Wattgovern drained(int ticks) {
        Wattgovern x = new Wattgovern();
        for (int i = 0; i < 6; i++) {
            addBusyCore(x, 0, 'b', 7);
        }
        x.wall(0);
        x.pass(ticks);
        return x;
    }

    /** Finds the first tick that owes, then runs again with a wall that leaves exactly 1. */
    private static void powerOfOneOwedClamps() {
        int ticks = 1;
        while (ticks < 90 && drained(ticks).owed() == 0) {
            ticks++;
        }
        Wattgovern x = drained(ticks - 1);
        x.wall(drained(ticks).owed() - 1);
        x.pass(1);
        check.same("exactly 1 is owed", 1, x.owed());
        x.pass(1);
        check.same("1 owed clamps", 'o', x.clamp(0));
    }

    private static void owedPowerClamps() {
        Wattgovern x = new Wattgovern();
        for (int i = 0; i < 6; i++) {
            addBusyCore(x, 0, 'b', 7);
        }
        x.wall(0);
        for (int i = 0; i < 90 && x.owed() == 0; i++) {
            x.pass(1);
            check.yes("not owed in the tick ahead", x.clamp(1) != 'o');
        }
        check.yes("owed at last", x.owed() > 0);
        x.heatUp(0, 3000);
        x.pass(1);
        check.same("owed in the tick ahead", 'o', x.clamp(1));
        check.same("speed 0", 0, x.speed(1));
        check.same("trip ahead of owed", 't', x.clamp(0));
        x.request(3, 0);
        x.lose(1, true);
        x.pass(1);
        check.same("owed ahead of a request for 0", 'o', x.clamp(1));
        x.governor(1, 'f', 0);
        x.pass(1);
        check.same("nothing wanted, nothing clamps", '-', x.clamp(1));
        x.governor(1, 'f', 1);
        x.wall(999);
        x.pass(1);
        check.same("still owed in the tick ahead", 'o', x.clamp(1));
        x.pass(1);
        check.same("then the request for 0", 'q', x.clamp(1));
    }

    private static void requestsClamp() {
        Wattgovern x = busyCore('b', 3);
        x.request(1, 3);
        x.pass(1);
        check.same("3 wanted, 3 told", '-', x.clamp(0));
        x.request(2, 2);
        check.same("not before the next tick", '-', x.clamp(0));
        x.pass(10);
        check.same("2 told", 'q', x.clamp(0));
        check.same("speed 2", 2, x.speed(0));
        check.same("only what it may have moves the rail", 620, x.volts(0));
        x.request(3, 0);
        x.pass(1);
        check.same("0 told", 0, x.speed(0));
        check.same("0 told by q", 'q', x.clamp(0));
    }

    private static void tripsAndAgeClamp() {
        Wattgovern x = busyCore('b', 3);
        x.request(1, 0);
        x.heatUp(0, 3000);
        x.pass(1);
        check.same("tripped ahead of a request", 't', x.clamp(0));
        x.wear(0, 999);
        x.wear(0, 20);
        x.pass(1);
        check.same("retired ahead of tripped", 'r', x.clamp(0));
        check.same("wanted stays", 3, x.wanted(0));
        x.governor(0, 'f', 0);
        x.pass(1);
        check.same("nothing wanted, nothing clamps", '-', x.clamp(0));
    }

    private static void sleepersAreClampedAllTheSame() {
        Wattgovern x = new Wattgovern();
        x.core(0, 'b');
        x.governor(0, 'f', 5);
        x.pass(12);
        check.same("asleep", 'd', x.sleep(0));
        check.same("no clamp by sleep", '-', x.clamp(0));
        check.same("wanted", 5, x.wanted(0));
        check.same("speed", 0, x.speed(0));
        check.same("the rail does not follow", 500, x.volts(0));
        x.lose(0, true);
        x.pass(1);
        check.same("clamped though asleep", 'n', x.clamp(0));
        x.thread(0, 10, 0);
        x.pass(1);
        check.same("waking", 'w', x.sleep(0));
        check.same("no volts ahead of awake", 500, x.volts(0));
    }

    private static void busyIsNow() {
        Wattgovern x = new Wattgovern();
        x.core(0, 's');
        check.same("no thread", false, x.isBusy(0));
        x.thread(0, 2, 0);
        check.same("at once", true, x.isBusy(0));
        x.governor(0, 'f', 1);
        x.pass(2);
        check.same("work left", true, x.isBusy(0));
        x.pass(1);
        check.same("done", false, x.isBusy(0));
        x.feed(0, 1);
        check.same("fed", true, x.isBusy(0));
    }
}
