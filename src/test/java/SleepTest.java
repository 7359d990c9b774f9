/** Promise 13, and what sleep does to threads and waking. */
public final class SleepTest {
    private static final Check check = new Check("SleepTest");

    public static void main(String[] args) {
        idleCoresFallAsleep();
        aBusyTickBreaksTheCount();
        lightSleepersWakeInOneTick();
        deepSleepersWakeInFour();
        wakingGoesOnWithoutWork();
        twoBeginInATick();
        twoBeginFromLightToo();
        aWaitingSleeperCountsAnew();
        deepSleepLeavesAllColdLightDoesNot();
        check.finish();
    }

    private static Wattgovern sleepers(int cores, int ticks) {
        Wattgovern x = new Wattgovern();
        for (int i = 0; i < cores; i++) {
            x.core(0, 'b');
        }
        x.pass(ticks);
        return x;
    }

    private static String sleeps(Wattgovern x, int cores) {
        StringBuilder all = new StringBuilder();
        for (int i = 0; i < cores; i++) {
            all.append(x.sleep(i));
        }
        return all.toString();
    }

    /** The states of core 0 behind each of the next ticks. */
    private static String path(Wattgovern x, int ticks) {
        StringBuilder all = new StringBuilder();
        for (int i = 0; i < ticks; i++) {
            x.pass(1);
            all.append(x.sleep(0));
        }
        return all.toString();
    }

    private static void idleCoresFallAsleep() {
        Wattgovern x = new Wattgovern();
        x.core(0, 's');
        check.same("new", 'a', x.sleep(0));
        check.same("idle", "aallllllldddd", path(x, 13));
        Wattgovern busy = new Wattgovern();
        busy.core(0, 's');
        busy.thread(0, 99999, 0);
        busy.governor(0, 'f', 0);
        check.same("busy with speed 0", "aaaaaaaaaaaa", path(busy, 12));
    }

    private static void aBusyTickBreaksTheCount() {
        Wattgovern x = sleepers(2, 2);
        x.thread(0, 500, 0);
        x.pass(1);
        x.move(0, 1);
        check.same("3 anew", "aallllllld", path(x, 10));
    }

    private static void lightSleepersWakeInOneTick() {
        Wattgovern x = sleepers(1, 3);
        check.same("light", 'l', x.sleep(0));
        x.thread(0, 500, 0);
        check.same("not before a tick", 'l', x.sleep(0));
        check.same("waking for a tick", "waaaa", path(x, 5));
        Wattgovern late = sleepers(1, 9);
        late.thread(0, 500, 0);
        check.same("light for 9 ticks", "waa", path(late, 3));
    }

    private static void deepSleepersWakeInFour() {
        Wattgovern x = sleepers(1, 10);
        check.same("deep", 'd', x.sleep(0));
        x.thread(0, 500, 0);
        check.same("waking for four ticks", "wwwwaaaa", path(x, 8));
    }

    private static void wakingGoesOnWithoutWork() {
        Wattgovern x = sleepers(2, 10);
        x.thread(0, 500, 0);
        x.pass(1);
        x.move(0, 1);
        check.same("on without work, counted from the next tick on", "wwwaaallllllld", path(x, 14));
        Wattgovern light = sleepers(2, 3);
        light.thread(0, 500, 0);
        light.pass(1);
        light.move(0, 1);
        check.same("from light too", "aaallllllld", path(light, 11));
    }

    private static void twoBeginInATick() {
        Wattgovern x = sleepers(6, 10);
        for (int i = 1; i < 6; i++) {
            x.thread(i, 500, 0);
        }
        String[] due = {"dwwddd", "dwwwwd", "dwwwww", "dwwwww", "daawww", "daaaaw", "daaaaa"};
        for (String states : due) {
            x.pass(1);
            check.same("two by numbers", states, sleeps(x, 6));
        }
    }

    private static void twoBeginFromLightToo() {
        Wattgovern x = sleepers(4, 4);
        for (int i = 3; i >= 0; i--) {
            x.thread(i, 500, 0);
        }
        for (String states : new String[] {"wwll", "aaww", "aaaa"}) {
            x.pass(1);
            check.same("two from light", states, sleeps(x, 4));
        }
    }

    private static void aWaitingSleeperCountsAnew() {
        Wattgovern x = sleepers(3, 8);
        for (int i = 0; i < 3; i++) {
            x.thread(i, 500, 0);
        }
        x.pass(1);
        check.same("the third waits", "wwl", sleeps(x, 3));
        x.move(2, 0);
        x.pass(9);
        check.same("9 ticks since it was busy", 'l', x.sleep(2));
        x.pass(1);
        check.same("10 ticks since it was busy", 'd', x.sleep(2));
    }

    private static void deepSleepLeavesAllColdLightDoesNot() {
        Wattgovern x = new Wattgovern();
        x.core(0, 'b');
        x.thread(0, 3, 0);
        x.governor(0, 'f', 1);
        x.pass(3);
        check.same("done", 0, x.work(0));
        x.pass(10);
        check.same("deep", 'd', x.sleep(0));
        x.thread(0, 100, 0);
        x.thread(0, 100, 0);
        x.pass(4);
        check.same("not cold while waking", false, x.isCold(1));
        x.pass(1);
        check.same("the one that runs", true, x.isCold(1));
        check.same("the one that waits", true, x.isCold(2));
        check.same("the one without work", true, x.isCold(0));
        x.pass(2);
        check.same("volts for 1 are there", 1, x.speed(0));
        check.same("half of 3", 99, x.work(1));
        x.pass(4);
        check.same("warm behind five", false, x.isCold(1));
        check.same("five halves", 95, x.work(1));
        check.same("the waiting one stays cold", true, x.isCold(2));

        Wattgovern light = sleepers(1, 9);
        light.thread(0, 100, 0);
        light.pass(2);
        check.same("awake", 'a', light.sleep(0));
        check.same("not cold behind light sleep", false, light.isCold(0));
    }
}
