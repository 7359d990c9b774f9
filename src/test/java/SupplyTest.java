/** Promises 26 to 30 and what 38 tells of them: the wall, the battery, the purse, power taken and owed. */
public final class SupplyTest {
    private static final Check check = new Check("SupplyTest");

    public static void main(String[] args) {
        theWallIsSet();
        theWallGivesFirst();
        theBatteryIsCharged();
        theChargeTakesWhatIsLeft();
        whatIsLeftIsOwed();
        thePurse();
        theFanIsTakenToo();
        check.finish();
    }

    private static void theWallIsSet() {
        Wattgovern x = new Wattgovern();
        check.fails("wall(-1)", IllegalArgumentException.class, () -> x.wall(-1));
        check.fails("wall(1000)", IllegalArgumentException.class, () -> x.wall(1000));
        check.same("wall(0)", 200, x.wall(0));
        check.same("wall(999)", 0, x.wall(999));
        check.fails("wall(1000)", IllegalArgumentException.class, () -> x.wall(1000));
        check.same("wall(1)", 999, x.wall(1));
    }

    /** One core asleep in no sense: busy with speed 0, so it takes 2 in a tick by its leak. */
    private static Wattgovern takesTwo() {
        Wattgovern x = new Wattgovern();
        x.core(0, 's');
        x.thread(0, 99999, 0);
        x.governor(0, 'f', 0);
        return x;
    }

    private static void expect(String what, Wattgovern x, int taken, int owed, int battery) {
        check.same(what + ": taken", taken, x.taken());
        check.same(what + ": owed", owed, x.owed());
        check.same(what + ": battery", battery, x.battery());
        check.same(what + ": isSound", true, x.isSound());
    }

    private static void theWallGivesFirst() {
        Wattgovern x = takesTwo();
        x.pass(1);
        expect("from the wall", x, 2, 0, 5000);
        check.same("wall", 2L, x.account('w'));
        x.wall(1);
        x.pass(1);
        expect("from both", x, 2, 0, 4999);
        x.wall(0);
        x.pass(1);
        expect("from the battery", x, 2, 0, 4997);
        check.same("wall in all", 3L, x.account('w'));
        check.same("battery in all", 3L, x.account('b'));
        check.same("taken in all", 6L, x.account('t'));
        check.same("owed in all", 0L, x.account('o'));
    }

    private static void theBatteryIsCharged() {
        Wattgovern x = takesTwo();
        x.wall(0);
        x.pass(20);
        expect("20 ticks", x, 2, 0, 4960);
        x.wall(200);
        x.pass(1);
        expect("30 in a tick", x, 2, 0, 4990);
        check.same("wall gave both", 32L, x.account('w'));
        check.same("battery less what went in", 10L, x.account('b'));
        x.pass(1);
        expect("5000 at most", x, 2, 0, 5000);
        check.same("only what went in", 44L, x.account('w'));
        check.same("even", 0L, x.account('b'));
        x.pass(1);
        check.same("nothing more goes in", 46L, x.account('w'));
    }

    private static void theChargeTakesWhatIsLeft() {
        Wattgovern x = takesTwo();
        x.wall(0);
        x.pass(20);
        x.wall(31);
        x.pass(1);
        expect("29 are left", x, 2, 0, 4989);
        x.wall(3);
        x.pass(1);
        expect("1 is left", x, 2, 0, 4990);
        x.wall(2);
        x.pass(1);
        expect("none is left", x, 2, 0, 4990);
    }

    private static void whatIsLeftIsOwed() {
        Wattgovern x = new Wattgovern();
        for (int i = 0; i < 6; i++) {
            x.core(0, 'b');
            x.thread(i, 99999, 9);
            x.governor(i, 'f', 7);
        }
        x.wall(10);
        int battery = x.battery();
        boolean part = false;
        long owedInAll = 0;
        for (int i = 0; i < 55; i++) {
            x.pass(1);
            int fromBattery = Math.min(battery, x.taken() - 10);
            expect("tick " + i, x, x.taken(), x.taken() - 10 - fromBattery, battery - fromBattery);
            part = part || fromBattery > 0 && x.owed() > 0;
            battery = x.battery();
            owedInAll += x.owed();
        }
        check.yes("a tick from all three", part);
        check.yes("owed in the end", owedInAll > 0);
        check.same("account of owed", owedInAll, x.account('o'));
    }

    private static void thePurse() {
        Wattgovern x = new Wattgovern();
        x.core(0, 'b');
        x.thread(0, 99999, 9);
        x.governor(0, 'f', 7);
        x.core(1, 'b');
        x.thread(1, 99999, 9);
        x.governor(1, 'f', 7);
        int purse = 600;
        boolean emptied = false;
        for (int i = 0; i < 90; i++) {
            x.pass(1);
            purse = Math.max(0, Math.min(600, purse + 60 - x.taken()));
            check.same("purse in tick " + i, purse, x.purse());
            emptied = emptied || purse == 0;
        }
        check.yes("the purse was emptied", emptied);
        x.governor(0, 'f', 0);
        x.governor(1, 'f', 0);
        x.pass(40);
        check.same("full again, 600 at most", 600, x.purse());
    }

    private static void theFanIsTakenToo() {
        Wattgovern x = new Wattgovern();
        x.core(0, 's');
        x.pass(10);
        for (int i = 0; i < 9; i++) {
            x.heatUp(0, 9999);
        }
        for (int level : new int[] {1, 2, 3}) {
            while (x.fan() < level) {
                x.pass(1);
            }
            check.same("deep asleep, so the fan alone takes", 5 * level, x.taken());
        }
        check.same("isSound", true, x.isSound());
    }
}
