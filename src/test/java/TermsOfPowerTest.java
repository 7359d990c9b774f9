import java.util.NoSuchElementException;

/** Each sentence of the document's terms on power, the fan, supply, sensors, requests, ticks and exceptions. */
public final class TermsOfPowerTest {
    private static final Check check = new Check("TermsOfPowerTest");
    private static final Doc doc = new Doc(check);
    private static final Class<IndexOutOfBoundsException> INDEX = IndexOutOfBoundsException.class;
    private static final Class<IllegalArgumentException> ARGUMENT = IllegalArgumentException.class;
    private static final Class<IllegalStateException> STATE = IllegalStateException.class;
    private static final Class<UnsupportedOperationException> UNSUPPORTED = UnsupportedOperationException.class;
    private static final Class<NoSuchElementException> ELEMENT = NoSuchElementException.class;
    private static final int MUCH = 99999;

    private static String title = "";

    public static void main(String[] args) {
        ofPower();
        ofTheFan();
        ofSupply();
        ofSensors();
        ofRequests();
        ofATick();
        ofExceptions();
        doc.allTested("Power", "The fan", "Supply", "Sensors", "Requests", "A tick", "Exceptions");
        check.finish();
    }

    private static void test(String sentence, Doc.Test test) {
        doc.test(title, sentence, test);
    }

    private static Both chip(String kinds) {
        Both b = new Both(check, title);
        for (int i = 0; i < kinds.length(); i++) {
            b.is(i, "core", 0, kinds.charAt(i));
        }
        return b;
    }

    /** One core with a thread and a fixed speed. */
    private static Both busy(char kind, int speed, int work) {
        Both b = chip("" + kind);
        b.is(0, "thread", 0, work, 0);
        b.is('l', "governor", 0, 'f', speed);
        return b;
    }

    /** Leaves a core with exactly this heat, which it must not have already. */
    private static void heatTo(Both b, int core, int heat) {
        for (int more = heat - b.chip.heat(core); more > 0; more -= 9999) {
            b.call("heatUp", core, Math.min(more, 9999));
        }
        b.is(heat, "heat", core);
    }

    private static void ofPower() {
        title = "Power";
        test("An awake core takes its speed times the voltage, divided by 50, cut, if it is busy, by 200 if not;", () -> {
            Both b = busy('b', 1, 6);
            int[] taken = {2, 2, 11 + 2, 11 + 2, 2 + 2, 2 + 2};
            for (int due : taken) {
                b.pass(1);
                b.is(due, "taken");
            }
            b.is(560, "volts", 0);
            b.is(1, "speed", 0);
            b.is(false, "isBusy", 0);
        });
        test("and it leaks the voltage times its degrees, divided by 5000, cut, also while it is waking;", () -> {
            for (int degrees : new int[] {20, 29, 30, 49, 50, 79}) {
                Both b = chip("s");
                b.call("heatUp", 0, degrees * 20 + 1 - 400);
                b.pass(1);
                b.is(500 * degrees / 5000, "taken");
            }
            Both waking = chip("s");
            waking.pass(10);
            waking.is(0, "thread", 0, MUCH, 0);
            for (int i = 0; i < 4; i++) {
                heatTo(waking, 0, 1019 + i);
                waking.pass(1);
                waking.is('w', "sleep", 0);
                waking.is(5, "taken");
            }
        });
        test("in light sleep half of that, cut, in deep sleep nothing.", () -> {
            Both b = chip("s");
            b.pass(2);
            for (int degrees : new int[] {50, 59, 60, 70, 71, 72, 73}) {
                heatTo(b, 0, degrees * 20);
                b.pass(1);
                b.is('l', "sleep", 0);
                b.is(500 * degrees / 5000 / 2, "taken");
            }
            heatTo(b, 0, 2000);
            b.pass(1);
            b.is('d', "sleep", 0);
            b.is(0, "taken");
        });
        test("This becomes its heat.", () -> {
            Both b = busy('b', 1, MUCH);
            b.pass(1);
            b.is(402, "heat", 0);
            b.pass(1);
            b.is(404, "heat", 0);
            b.pass(1);
            b.is(404 + 13, "heat", 0);
            b.is(17L, "account", 't');
        });
        test("Its degrees are those ahead of that.", () -> {
            Both b = chip("s");
            heatTo(b, 0, 999);
            b.pass(1);
            b.is(4, "taken");
            b.is(999 + 4 - 30, "heat", 0);
            heatTo(b, 0, 1000);
            b.pass(1);
            b.is(5, "taken");
        });
        test("Behind the power of all cores each gives the case its degrees less those of the case, perhaps below 0, as both "
                + "are then, one core behind the other.", () -> {
            coresGiveByTheirNewDegrees();
            theCaseWarmsColdCores();
            oneCoreBehindTheOther();
        });
        test("Then the case gives the air its degrees less 20, times 1 more than the level of the fan as of the tick ahead, "
                + "divided by 2, cut.", TermsOfPowerTest::theAirGetsByTheLevelAhead);
        test("The fan then takes 5 for each level behind its step in this tick, which goes to the air.",
                TermsOfPowerTest::theFanTakesByItsNewLevel);
    }

    private static void coresGiveByTheirNewDegrees() {
        Both b = chip("s");
        heatTo(b, 0, 1016);
        b.pass(1);
        b.is(1016 + 5 - (51 - 20), "heat", 0);
        check.same("case", 4000L + 31, b.caseHeat(1, 0));
    }

    private static void theCaseWarmsColdCores() {
        Both b = chip("s");
        heatTo(b, 0, 80000);
        b.pass(5);
        b.is(1, "core", 1, 's');
        b.pass(10);
        int degrees = b.chip.degrees(1);
        int heat = b.chip.heat(1);
        check.yes("the case is warmer", b.chip.caseDegrees() > degrees);
        b.pass(1);
        check.yes("the core gains, though it is asleep", b.chip.sleep(1) == 'd' && b.chip.heat(1) > heat);
        b.is(true, "isSound");
    }

    /** Core 0 heats the case from 20 to 45 degrees, of which core 1 has 20: so core 1 gets 25 in the same tick. */
    private static void oneCoreBehindTheOther() {
        Both b = chip("ss");
        heatTo(b, 0, 99999);
        b.pass(1);
        b.is(520, "volts", 0);
        b.is(519 + 2 + 5, "taken");
        b.is(99999 + 519 - (5025 - 20), "heat", 0);
        b.is(402 + 25, "heat", 1);
        check.same("case", 4000L + 5005 - 25 - 12, b.caseHeat(2, 0));
        Both turned = chip("ss");
        heatTo(turned, 1, 99999);
        turned.pass(1);
        turned.is(402, "heat", 0);
        turned.is(99999 + 519 - 5005, "heat", 1);
    }

    private static void theAirGetsByTheLevelAhead() {
        boolean[][] met = new boolean[4][400];
        for (int heat = 2000; heat < 100000; heat += 7000) {
            Both b = chip("s");
            heatTo(b, 0, heat);
            for (int i = 0; i < 150; i++) {
                int level = b.chip.fan();
                long before = b.chip.account('a');
                b.pass(1);
                long given = b.chip.account('a') - before - 5 * b.chip.fan();
                int degrees = (int) ((b.caseHeat(1, 0) + given) / 200);
                check.same("given with " + degrees + " degrees", (long) ((degrees - 20) * (level + 1) / 2), given);
                met[level][degrees] = true;
            }
        }
        for (int degrees : new int[] {20, 21, 22, 23}) {
            check.yes("level 0 with " + degrees, met[0][degrees]);
        }
        check.yes("an odd number of degrees at level 2", met[2][45] || met[2][47] || met[2][49] || met[2][51]);
        check.yes("level 1 and 3 too", met[1][45] && met[3][61]);
    }

    private static void theFanTakesByItsNewLevel() {
        Both b = chip("s");
        b.pass(10);
        heatTo(b, 0, 99999);
        int seen = 0;
        for (int i = 0; i < 900; i++) {
            long air = b.chip.account('a');
            int level = b.chip.fan();
            b.pass(1);
            b.is('d', "sleep", 0);
            b.is(5 * b.chip.fan(), "taken");
            check.yes("to the air", b.chip.account('a') - air >= 5 * b.chip.fan());
            seen += b.chip.fan() == level ? 0 : 1;
        }
        b.is(0, "fan");
        check.same("up to 3 and down to 0", 6, seen);
        b.is(true, "isSound");
    }

    /** What the fan did behind a tick with so many degrees of the case, by the level ahead; -1 if that was not met. */
    private static final int[][] STEPS = new int[4][400];

    private static void fillSteps() {
        for (int[] row : STEPS) {
            java.util.Arrays.fill(row, -1);
        }
        for (int heat = 3000; heat <= 99000; heat += heat < 20000 ? 200 : 6000) {
            Both b = chip("s");
            heatTo(b, 0, heat);
            for (int i = 0; i < 220; i++) {
                int level = b.chip.fan();
                b.pass(1);
                STEPS[level][b.chip.caseDegrees()] = b.chip.fan();
            }
        }
    }

    private static void ofTheFan() {
        title = "The fan";
        test("Its level, 0 to 3, 0 at first, is 1 more in a tick if the case has 40, 50 or 60 degrees or more at the levels 0, "
                + "1 and 2, otherwise 1 less if it has fewer than 35, 45 or 55 at the levels 1, 2 and 3;", () -> {
            chip("").is(0, "fan");
            fillSteps();
            int[][] due = {{0, 39, 0}, {0, 40, 1}, {1, 49, 1}, {1, 50, 2}, {2, 59, 2}, {2, 60, 3}, {3, 55, 3}, {3, 54, 2},
                {2, 45, 2}, {2, 44, 1}, {1, 35, 1}, {1, 34, 0}, {0, 34, 0}, {0, 20, 0}};
            for (int[] step : due) {
                check.same("level " + step[0] + " with " + step[1], step[2], STEPS[step[0]][step[1]]);
            }
            Both b = chip("s");
            heatTo(b, 0, 99999);
            for (int level : new int[] {1, 2, 3, 3, 3}) {
                b.pass(1);
                b.is(level, "fan");
            }
            check.yes("only 1 in a tick, and 3 at most", b.chip.caseDegrees() > 70);
        });
        test("a dead fan has the level 0, at once as it dies.", () -> {
            Both b = chip("s");
            heatTo(b, 0, 99999);
            b.pass(5);
            b.is(3, "fan");
            b.is(false, "killFan", true);
            b.is(0, "fan");
            long before = b.chip.account('a');
            b.pass(1);
            b.is(0, "fan");
            long given = b.chip.account('a') - before;
            check.same("the air gets by the level 0", ((b.caseHeat(1, 0) + given) / 200 - 20) / 2, given);
            b.pass(20);
            b.is(0, "fan");
            b.is(true, "killFan", false);
            b.pass(1);
            b.is(1, "fan");
            Both dead = chip("");
            dead.is(false, "killFan", true);
            dead.is(0, "fan");
        });
    }

    /** Two busy cores of speed 0 take 4 in a tick. */
    private static Both takesFour() {
        Both b = chip("ss");
        b.is(0, "thread", 0, MUCH, 0);
        b.is(1, "thread", 1, MUCH, 0);
        b.call("governor", 0, 'f', 0);
        b.call("governor", 1, 'f', 0);
        return b;
    }

    private static void supplied(Both b, int wall, int fromWall, int fromBattery, int owed) {
        long wallBefore = b.chip.account('w');
        long batteryBefore = b.chip.account('b');
        b.call("wall", wall);
        b.pass(1);
        b.is(4, "taken");
        b.is(owed, "owed");
        b.is(wallBefore + fromWall, "account", 'w');
        b.is(batteryBefore + fromBattery, "account", 'b');
        b.is((int) (5000 - batteryBefore - fromBattery), "battery");
    }

    private static void ofSupply() {
        title = "Supply";
        test("What is taken comes from the wall, up to what it gives, 200 in a tick at first, then from the battery, 5000 at "
                + "first and at most;", () -> {
            Both b = takesFour();
            b.is(5000, "battery");
            b.is(200, "wall", 200);
            supplied(b, 200, 4, 0, 0);
            supplied(b, 5, 4, 0, 0);
            supplied(b, 4, 4, 0, 0);
            supplied(b, 3, 3, 1, 0);
            supplied(b, 0, 0, 4, 0);
            supplied(b, 999, 4 + 5, -5, 0);
            supplied(b, 999, 4, 0, 0);
            b.is(5000, "battery");
            Both first = chip("s");
            heatTo(first, 0, 99999);
            first.pass(1);
            first.is(200L, "account", 'w');
        });
        test("what is left is owed, and given all the same.", () -> {
            Both b = takesFour();
            supplied(b, 2, 2, 2, 0);
            b.call("wall", 0);
            b.pass(1249);
            b.is(2, "battery");
            b.is(0, "owed");
            supplied(b, 0, 0, 2, 2);
            b.is(0, "battery");
            supplied(b, 0, 0, 0, 4);
            supplied(b, 3, 3, 0, 1);
            supplied(b, 4, 4, 0, 0);
            b.is(7L, "account", 'o');
            Both rich = takesFour();
            rich.pass(1254);
            rich.is(b.chip.heat(0), "heat", 0);
            check.same("the case is as warm", rich.caseHeat(2, 2), b.caseHeat(2, 2));
        });
        test("What the wall still gives goes into the battery, at most 30 in a tick.", () -> {
            Both b = takesFour();
            b.call("wall", 0);
            b.pass(100);
            b.is(4600, "battery");
            supplied(b, 4, 4, 0, 0);
            supplied(b, 5, 5, -1, 0);
            supplied(b, 33, 33, -29, 0);
            supplied(b, 34, 34, -30, 0);
            supplied(b, 35, 34, -30, 0);
            supplied(b, 999, 34, -30, 0);
            b.call("wall", 200);
            b.pass(9);
            b.is(4990, "battery");
            supplied(b, 200, 14, -10, 0);
            supplied(b, 200, 4, 0, 0);
        });
        test("The purse, 600 at first, becomes 60 more and what was taken less in each tick, and behind both 0 at least, 600 "
                + "at most.", TermsOfPowerTest::thePurseHasBounds);
    }

    private static void thePurseHasBounds() {
        Both b = chip("s");
        b.is(600, "purse");
        b.pass(1);
        b.is(600, "purse");
        int[] heats = {5000, 9000, 11000, 12400, 30000, 99999};
        boolean more = false;
        boolean less = false;
        boolean none = false;
        for (int heat : heats) {
            Both hot = busy('s', 0, MUCH);
            heatTo(hot, 0, heat);
            int purse = 600;
            for (int i = 0; i < 60; i++) {
                hot.pass(1);
                int due = Math.max(0, Math.min(600, purse + 60 - hot.chip.taken()));
                hot.is(due, "purse");
                more = more || due > purse;
                less = less || due > 0 && due < purse;
                none = none || due == 0 && hot.chip.taken() > purse + 60;
                purse = due;
            }
        }
        check.yes("it was filled, used, and used up", more && less && none);
        Both full = busy('s', 0, MUCH);
        heatTo(full, 0, 12000);
        full.pass(1);
        check.yes("60 come ahead of 600 at most", full.chip.taken() > 60 && full.chip.purse() == 660 - full.chip.taken());
    }

    private static void ofSensors() {
        title = "Sensors";
        test("That of a core tells its degrees, 1 less if they are odd, as of the last tick that 4 divides, the first one "
                + "being the tick 1, also while it is lost;", () -> {
            for (int degrees : new int[] {21, 22, 71, 99, 100, 101}) {
                Both b = chip("s");
                b.call("lose", 0, degrees > 99);
                b.pass(3);
                heatTo(b, 0, degrees * 20);
                b.pass(1);
                b.call("lose", 0, false);
                b.is(degrees - degrees % 2, "sensor", 0);
                heatTo(b, 0, 3000);
                b.pass(3);
                b.is(degrees - degrees % 2, "sensor", 0);
                heatTo(b, 0, 3210);
                b.pass(1);
                b.is(160, "sensor", 0);
            }
        });
        test("20 at first.", () -> {
            Both b = chip("s");
            heatTo(b, 0, 2000);
            b.is(20, "sensor", 0);
            b.pass(3);
            b.is(20, "sensor", 0);
            b.pass(2);
            b.is(1, "core", 0, 's');
            heatTo(b, 1, 2000);
            b.pass(2);
            b.is(20, "sensor", 1);
        });
        test("It can be lost, and found.", () -> {
            Both b = chip("s");
            b.is(false, "lose", 0, true);
            b.refuses(ELEMENT, "sensor", 0);
            b.is(true, "lose", 0, true);
            b.is(true, "lose", 0, false);
            b.is(20, "sensor", 0);
        });
        test("A core that has 100 degrees or more trips, until it has fewer than 90, whatever a sensor tells.",
                TermsOfPowerTest::tripsBeginAndEnd);
        test("A core that has 85 degrees or more is worn by 1 in a tick;", () -> {
            for (int heat : new int[] {1699, 1700}) {
                Both b = chip("s");
                b.call("wear", 0, 8);
                heatTo(b, 0, heat);
                b.pass(1);
                b.is(heat == 1700 ? 10 : 9, "wear", 0, 1);
            }
            Both b = chip("s");
            heatTo(b, 0, 99999);
            b.pass(50);
            b.is(51, "wear", 0, 1);
        });
        test("its age is a tenth of that, cut;", () -> {
            Both b = chip("s");
            heatTo(b, 0, 50000);
            b.pass(9);
            b.is(0, "age", 0);
            b.pass(1);
            b.is(1, "age", 0);
            b.is(19, "wear", 0, 9);
            b.is(1, "age", 0);
            b.is(20, "wear", 0, 1);
            b.is(2, "age", 0);
        });
        test("it is retired with an age above 100.", () -> {
            Both b = chip("s");
            b.call("wear", 0, 999);
            b.call("wear", 0, 9);
            heatTo(b, 0, 50000);
            b.pass(1);
            b.is(100, "age", 0);
            b.is(false, "isRetired", 0);
            b.pass(1);
            b.is(101, "age", 0);
            b.is(true, "isRetired", 0);
        });
    }

    private static void tripsBeginAndEnd() {
        for (boolean lost : new boolean[] {false, true}) {
            for (int heat : new int[] {1999, 2000}) {
                Both b = chip("s");
                b.call("lose", 0, lost);
                heatTo(b, 0, heat);
                b.pass(1);
                b.is(heat == 2000, "isTripped", 0);
            }
            for (int heat : new int[] {1799, 1800}) {
                Both b = chip("s");
                b.call("lose", 0, lost);
                heatTo(b, 0, 2000);
                b.pass(1);
                while (b.chip.heat(0) >= 1799) {
                    b.pass(1);
                    b.is(true, "isTripped", 0);
                }
                heatTo(b, 0, heat);
                b.is(true, "isTripped", 0);
                b.pass(1);
                b.is(heat == 1800, "isTripped", 0);
                heatTo(b, 0, 1999);
                b.pass(1);
                b.is(heat == 1800, "isTripped", 0);
            }
        }
    }

    private static void ofRequests() {
        title = "Requests";
        test("A request has a number and a speed, 0 to 7;", () -> {
            Both b = busy('b', 7, MUCH);
            b.refuses(ARGUMENT, "request", 1, -1);
            b.refuses(ARGUMENT, "request", 1, 8);
            b.is(1, "request", 1, 7);
            b.pass(1);
            b.is('-', "clamp", 0);
            b.is(2, "request", 2, 0);
            b.pass(1);
            b.is('q', "clamp", 0);
            b.is(0, "speed", 0);
        });
        test("it holds from the next tick on, in place of another one, if its number is greater than that of all that came "
                + "ahead;", () -> {
            Both b = busy('b', 7, MUCH);
            b.is(1, "request", 1, 6);
            b.is(0, "holds");
            b.pass(1);
            b.is(1, "holds");
            b.is(2, "request", 2, 5);
            b.is(3, "request", 4, 7);
            b.is(1, "holds");
            b.pass(1);
            b.is(4, "holds");
            b.is('-', "clamp", 0);
            b.pass(100);
            b.is(4, "holds");
            b.refuses(ARGUMENT, "request", 9000, 8);
            b.is(4, "request", 5, 3);
            b.pass(1);
            b.is(5, "holds");
            b.is(5, "request", 9999, 1);
            b.refuses(UNSUPPORTED, "request", 9999, 1);
        });
        test("otherwise it is stale, and refused.", () -> {
            Both b = chip("");
            b.is(1, "request", 50, 6);
            b.refuses(UNSUPPORTED, "request", 50, 6);
            b.refuses(UNSUPPORTED, "request", 49, 5);
            b.pass(1);
            b.is(50, "holds");
            b.refuses(UNSUPPORTED, "request", 50, 0);
            b.is(true, "drop");
            b.refuses(UNSUPPORTED, "request", 50, 0);
            b.is(2, "request", 51, 0);
            b.is(true, "drop");
            b.refuses(UNSUPPORTED, "request", 51, 0);
            b.is(3, "request", 52, 0);
        });
    }

    private static void ofATick() {
        title = "A tick";
        test("A tick, in this order: a request begins to hold;", () -> {
            Both b = busy('b', 7, MUCH);
            b.is(1, "request", 1, 0);
            b.pass(1);
            b.is('q', "clamp", 0);
            b.is(500, "volts", 0);
        });
        test("sensors;", () -> {
            Both b = chip("s");
            b.pass(3);
            heatTo(b, 0, 2440);
            b.pass(1);
            b.is(122, "sensor", 0);
            check.yes("it is cooler by now", b.chip.degrees(0) < 122);
        });
        test("trips and wear, by the degrees at its beginning;", () -> {
            Both b = busy('b', 7, MUCH);
            heatTo(b, 0, 2000);
            b.pass(1);
            check.yes("below 100 by now", b.chip.degrees(0) < 100);
            b.is(true, "isTripped", 0);
            b.is('t', "clamp", 0);
            b.is(2, "wear", 0, 1);
            Both cooler = chip("s");
            heatTo(cooler, 0, 1699);
            cooler.call("killFan", true);
            cooler.pass(1);
            cooler.is(1, "wear", 0, 1);
            Both old = busy('b', 7, MUCH);
            old.call("wear", 0, 999);
            old.call("wear", 0, 10);
            heatTo(old, 0, 1700);
            old.pass(1);
            old.is('r', "clamp", 0);
        });
        test("sleep and waking;", () -> {
            Both b = chip("bb");
            b.is(0, "thread", 1, MUCH, 0);
            b.call("governor", 0, 'f', 1);
            b.call("governor", 1, 'f', 1);
            b.pass(5);
            b.is('l', "sleep", 0);
            b.is(1, "thread", 0, 30, 0);
            b.pass(1);
            b.is('w', "sleep", 0);
            b.is(0, "speed", 0);
            b.pass(1);
            b.is('a', "sleep", 0);
            b.is(1, "speed", 0);
            b.is(27, "work", 1);
        });
        test("wishes, clamps, rails and speeds;", () -> {
            Both b = busy('b', 1, MUCH);
            b.pass(2);
            b.is(540, "volts", 0);
            b.pass(1);
            b.is(560, "volts", 0);
            b.is(1, "speed", 0);
            b.call("governor", 0, 'f', 0);
            b.pass(1);
            b.is(0, "wanted", 0);
            b.is(540, "volts", 0);
            b.is(0, "speed", 0);
        });
        test("work;", () -> {
            Both b = busy('b', 1, 3);
            b.pass(2);
            b.is(3, "work", 0);
            b.pass(1);
            b.is(1, "speed", 0);
            b.is(0, "work", 0);
            b.is(11 + 2, "taken");
        });
        test("power and heat of all cores, by numbers, then the flow to the case, that to the air, the fan, supply and purse.",
                () -> {
            Both b = chip("ss");
            heatTo(b, 0, 99999);
            b.pass(1);
            b.is(1, "fan");
            b.is(519 + 2 + 5, "taken");
            b.is(660 - 526, "purse");
            b.is(5000 - 326, "battery");
            b.is(0, "owed");
            b.is(12L + 5, "account", 'a');
            b.is(427, "heat", 1);
            check.same("case", 8968L, b.caseHeat(2, 0));
        });
    }

    private static void ofExceptions() {
        title = "Exceptions";
        test("A method that throws an exception changes nothing, but what why() tells.", TermsOfPowerTest::refusalsChangeNothing);
        test("If several exceptions apply, the one that is listed first is thrown.", () -> {
            Both b = scene();
            b.refuses(INDEX, "core", 3, 'x');
            b.refuses(ARGUMENT, "core", 0, 'x');
            b.refuses(STATE, "core", 0, 's');
            b.refuses(INDEX, "thread", 6, 0, 10);
            b.refuses(ARGUMENT, "thread", 0, 0, 10);
            b.refuses(STATE, "thread", 0, 1, 0);
            b.refuses(INDEX, "feed", 8, 0);
            b.refuses(ARGUMENT, "feed", 0, 100000);
            b.refuses(STATE, "feed", 0, 99999);
            b.refuses(INDEX, "move", 8, 0);
            b.refuses(INDEX, "move", 0, 6);
            b.refuses(UNSUPPORTED, "move", 0, 0);
            b.refuses(INDEX, "governor", 6, 'x', 8);
            b.refuses(ARGUMENT, "governor", 0, 'x', 8);
            b.refuses(INDEX, "need", 6, 8);
            b.refuses(ARGUMENT, "need", 0, 8);
            b.refuses(INDEX, "sensor", 6);
            b.refuses(ELEMENT, "sensor", 5);
            b.refuses(INDEX, "heatUp", 6, 0);
            b.refuses(ARGUMENT, "heatUp", 0, 10000);
            b.refuses(STATE, "heatUp", 0, 9999);
            b.refuses(ARGUMENT, "request", 5, 8);
            b.refuses(UNSUPPORTED, "request", 5, 7);
            b.refuses(INDEX, "wear", 6, 0);
            b.refuses(ARGUMENT, "wear", 0, 1000);
            b.refuses(STATE, "wear", 0, 999);
            b.pass(9999 - 100);
            b.refuses(ARGUMENT, "pass", 101);
            b.refuses(STATE, "pass", 100);
        });
    }

    /** A full chip: cores, threads, work, heat and wear are near their bounds, a request holds, and one waits. */
    private static Both scene() {
        Both b = chip("bsbsbs");
        for (int i = 0; i < 8; i++) {
            b.is(i, "thread", i % 6, MUCH, i);
        }
        for (int i = 0; i < 9; i++) {
            b.call("feed", 0, MUCH);
        }
        for (int i = 0; i < 10; i++) {
            b.call("wear", 0, 999);
        }
        b.call("governor", 2, 'f', 3);
        b.call("governor", 3, 'w', 3);
        b.call("lose", 5, true);
        b.is(1, "request", 4, 2);
        b.pass(1);
        b.is(2, "request", 5, 3);
        heatTo(b, 0, 99000);
        return b;
    }

    private static void refuseAll(Both b) {
        for (int wrong : new int[] {-1, 9, 10000, 1000000, Integer.MIN_VALUE, Integer.MAX_VALUE}) {
            for (String method : "speed wanted clamp sleep isBusy heat degrees sensor isTripped age isRetired".split(" ")) {
                b.is(INDEX, method, wrong);
            }
            b.is(INDEX, "core", wrong, 's');
            b.is(INDEX, "thread", wrong, 1, 1);
            b.is(ARGUMENT, "thread", 0, 1, wrong == 9 ? 10 : wrong);
            b.is(INDEX, "feed", wrong, 1);
            b.is(INDEX, "move", wrong, 1);
            b.is(INDEX, "move", 0, wrong);
            b.is(INDEX, "governor", wrong, 'f', 1);
            b.is(ARGUMENT, "governor", 1, 'f', wrong);
            b.is(INDEX, "work", wrong);
            b.is(INDEX, "isCold", wrong);
            b.is(INDEX, "need", wrong, 0);
            b.is(ARGUMENT, "need", 1, wrong);
            b.is(INDEX, "volts", wrong);
            b.is(INDEX, "lose", wrong, true);
            b.is(INDEX, "heatUp", wrong, 1);
            b.is(INDEX, "wear", wrong, 1);
            b.is(ARGUMENT, "request", 6, wrong);
            b.is(ARGUMENT, "request", wrong == 9 ? 0 : wrong, 1);
        }
        b.is(ARGUMENT, "core", 0, 'q');
        b.is(STATE, "core", 0, 's');
        b.is(STATE, "thread", 0, 1, 1);
        b.is(ARGUMENT, "feed", 1, 0);
        b.is(STATE, "feed", 0, MUCH);
        b.is(UNSUPPORTED, "move", 7, 1);
        b.is(ARGUMENT, "governor", 1, 'q', 1);
        b.is(ARGUMENT, "pass", 0);
        b.is(ARGUMENT, "pass", 101);
        b.is(ELEMENT, "sensor", 5);
        b.is(ARGUMENT, "heatUp", 1, 0);
        b.is(ARGUMENT, "heatUp", 1, 10000);
        b.is(ARGUMENT, "wall", -1);
        b.is(ARGUMENT, "wall", 1000);
        b.is(UNSUPPORTED, "request", 5, 7);
        b.is('s', "why");
        b.is(ARGUMENT, "wear", 1, 0);
        b.is(ARGUMENT, "wear", 1, 1000);
        b.is(STATE, "wear", 0, 999);
        b.is(ARGUMENT, "account", 'q');
    }

    /** Two chips of the same calls, one of which has refused ones between them, stay alike in every tick. */
    private static void refusalsChangeNothing() {
        Both plain = scene();
        Both vexed = scene();
        vexed.is('-', "why");
        vexed.is(STATE, "heatUp", 0, 9999);
        for (int i = 0; i < 40; i++) {
            refuseAll(vexed);
            check.same("ahead of tick " + i, View.of(plain.chip), View.of(vexed.chip));
            plain.pass(1);
            vexed.pass(1);
        }
        check.same("at the end", View.of(plain.chip), View.of(vexed.chip));
        vexed.is(3, "request", 6, 1);
        vexed.is('s', "why");
        plain.is('-', "why");
    }
}
