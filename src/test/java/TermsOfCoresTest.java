import java.util.Random;

/** Each sentence of the document's terms on cores, threads, sleep, speeds and rails has its test here. */
public final class TermsOfCoresTest {
    private static final Check check = new Check("TermsOfCoresTest");
    private static final Doc doc = new Doc(check);
    private static final Class<IndexOutOfBoundsException> INDEX = IndexOutOfBoundsException.class;
    private static final Class<IllegalArgumentException> ARGUMENT = IllegalArgumentException.class;
    private static final Class<IllegalStateException> STATE = IllegalStateException.class;
    private static final int MUCH = 99999;

    private static String title = "";

    public static void main(String[] args) {
        ofTheChip();
        ofCores();
        ofThreads();
        ofSleep();
        ofWishes();
        ofLimits();
        ofRails();
        doc.allTested("No clo", "Cores", "Threads", "Sleep", "Speeds", "Rails");
        check.finish();
    }

    private static void test(String sentence, Doc.Test test) {
        doc.test(title, sentence, test);
    }

    private static Both chip(String kinds) {
        Both b = new Both(check, title);
        for (int i = 0; i < kinds.length(); i++) {
            b.is(i, "core", 0, kinds.charAt(i));
        }
        return b;
    }

    /** One core with a thread and a fixed speed. */
    private static Both busy(char kind, int speed, int work, int memory) {
        Both b = chip("" + kind);
        b.is(0, "thread", 0, work, memory);
        b.is('l', "governor", 0, 'f', speed);
        return b;
    }

    private static void addBusy(Both b, int rail, char kind, int speed) {
        Object core = b.call("core", rail, kind);
        b.call("thread", core, MUCH, 9);
        b.call("governor", core, 'f', speed);
    }

    /** Leaves a core with exactly this many degrees. */
    private static void warm(Both b, int core, int degrees) {
        b.call("heatUp", core, degrees * 20 - b.chip.heat(core));
    }

    /** How core 0 sleeps behind each of the next ticks. */
    private static String path(Both b, int ticks) {
        StringBuilder all = new StringBuilder();
        for (int i = 0; i < ticks; i++) {
            b.pass(1);
            all.append(b.call("sleep", 0));
        }
        return all.toString();
    }

    private static String sleeps(Both b, int cores) {
        StringBuilder all = new StringBuilder();
        for (int core = 0; core < cores; core++) {
            all.append(b.call("sleep", core));
        }
        return all.toString();
    }

    private static void ofTheChip() {
        title = "No clo";
        test("No clock runs above what its voltage allows;", TermsOfCoresTest::noClockIsTooFast);
        test("all energy is accounted for.", TermsOfCoresTest::energyIsAccountedFor);
        test("The class is not thread-safe.", () -> {
            Both other = busy('b', 3, MUCH, 0);
            String before = View.of(other.chip);
            busy('s', 4, MUCH, 0).pass(50);
            check.same("but one object knows nothing of another", before, View.of(other.chip));
        });
    }

    private static Both mixed(Random random) {
        Both b = new Both(check, title);
        for (int i = 0; i < 6; i++) {
            addBusy(b, i % 3, i % 2 == 0 ? 'b' : 's', random.nextInt(8));
        }
        return b;
    }

    private static void shake(Both b, Random random) {
        int core = random.nextInt(6);
        b.call("governor", core, "flw".charAt(random.nextInt(3)), random.nextInt(8));
        b.call("heatUp", random.nextInt(6), 1 + random.nextInt(900));
        b.call("wear", random.nextInt(6), 1 + random.nextInt(20));
        b.call("move", random.nextInt(6), random.nextInt(6));
    }

    private static void noClockIsTooFast() {
        Random random = new Random(1);
        Both b = mixed(random);
        int fast = 0;
        for (int i = 0; i < 120; i++) {
            shake(b, random);
            boolean[] hot = new boolean[6];
            for (int core = 0; core < 6; core++) {
                hot[core] = b.chip.degrees(core) >= 80;
            }
            b.pass(1);
            for (int core = 0; core < 6; core++) {
                int speed = b.chip.speed(core);
                int needed = 500 + 60 * speed + b.chip.age(core) + (hot[core] ? 25 : 0);
                check.yes("voltage for the speed " + speed, speed == 0 || b.chip.volts(core % 3) >= needed);
                fast += speed;
            }
        }
        check.yes("some cores ran", fast > 100);
    }

    private static void energyIsAccountedFor() {
        Random random = new Random(2);
        Both b = mixed(random);
        for (int i = 0; i < 120; i++) {
            shake(b, random);
            b.call("wall", random.nextInt(60));
            b.pass(1);
            long inside = b.caseHeat(6, 6);
            for (int core = 0; core < 6; core++) {
                inside += b.chip.heat(core);
            }
            Wattgovern x = b.chip;
            check.same("heat", 4000 + 6 * 400 + x.account('t') + x.account('h'), inside + x.account('a'));
            check.same("power", x.account('t'), x.account('w') + x.account('b') + x.account('o'));
            check.same("battery", 5000 - x.account('b'), (long) x.battery());
            b.is(true, "isSound");
        }
        check.yes("some was owed", b.chip.account('o') > 0);
    }

    private static void ofCores() {
        title = "Cores";
        test("At most 6 are numbered from 0, each on a rail, 0 to 2, of a kind, 's' small with the speeds 0 to 4, or "
                + "'b' big with 0 to 7;", () -> {
            Both b = chip("");
            b.refuses(INDEX, "core", -1, 's');
            b.refuses(INDEX, "core", 3, 's');
            b.refuses(ARGUMENT, "core", 0, 'm');
            for (int i = 0; i < 6; i++) {
                b.is(i, "core", i % 3, i < 3 ? 's' : 'b');
                b.is(i < 3 ? 740 : 920, "need", i, i < 3 ? 4 : 7);
                b.refuses(ARGUMENT, "need", i, i < 3 ? 5 : 8);
            }
            b.refuses(STATE, "core", 0, 's');
            b.refuses(INDEX, "speed", 6);
        });
        test("the speed is 0 at first.", () -> {
            Both b = busy('b', 7, MUCH, 0);
            b.is(0, "speed", 0);
            b.pass(5);
            b.is(1, "core", 0, 'b');
            b.is(0, "speed", 1);
        });
        test("A speed needs 500 millivolts, 60 for each speed, its age, and 25 if the core has 80 degrees or more.", () -> {
            Both b = chip("bs");
            for (int speed = 0; speed <= 7; speed++) {
                b.is(500 + 60 * speed, "need", 0, speed);
            }
            b.call("wear", 0, 9);
            b.is(500, "need", 0, 0);
            b.call("wear", 0, 1);
            b.is(501, "need", 0, 0);
            b.is(79, "heatUp", 0, 1199);
            b.is(501, "need", 0, 0);
            b.is(80, "heatUp", 0, 1);
            b.is(526, "need", 0, 0);
            b.is(946, "need", 0, 7);
            b.is(500, "need", 1, 0);
        });
        test("A core has a heat, 400 at first, and a twentieth of it, cut, as degrees;", () -> {
            Both b = chip("s");
            b.is(400, "heat", 0);
            b.is(20, "degrees", 0);
            b.is(20, "heatUp", 0, 19);
            b.is(21, "heatUp", 0, 1);
            b.is(21, "heatUp", 0, 19);
            b.is(439, "heat", 0);
        });
        test("the case has 4000, and a two hundredth, cut, as degrees.", TermsOfCoresTest::theCaseCutsItsDegrees);
    }

    private static void theCaseCutsItsDegrees() {
        Both fresh = chip("");
        check.same("at first", 4000L, fresh.caseHeat(0, 0));
        fresh.is(20, "caseDegrees");
        boolean below = false;
        boolean exact = false;
        for (int heat = 1; heat < 3000 && !(below && exact); heat++) {
            Both b = chip("s");
            b.call("heatUp", 0, heat);
            for (int tick = 0; tick < 3; tick++) {
                b.pass(1);
                long caseHeat = b.caseHeat(1, 0);
                check.same("degrees with " + caseHeat, (int) (caseHeat / 200), b.chip.caseDegrees());
                below = below || caseHeat == 4199 && b.chip.caseDegrees() == 20;
                exact = exact || caseHeat == 4200 && b.chip.caseDegrees() == 21;
            }
        }
        check.yes("4199 was met", below);
        check.yes("4200 was met", exact);
    }

    private static void ofThreads() {
        title = "Threads";
        test("At most 8 are numbered from 0, each on a core, with work left, and memory, 0 to 9.", () -> {
            Both b = chip("ss");
            b.refuses(INDEX, "thread", 2, 1, 0);
            b.refuses(ARGUMENT, "thread", 0, 1, -1);
            b.refuses(ARGUMENT, "thread", 0, 1, 10);
            for (int i = 0; i < 8; i++) {
                b.is(i, "thread", i % 2, 1 + i, 1 + i);
                b.is(1 + i, "work", i);
            }
            b.refuses(STATE, "thread", 0, 1, 0);
            b.refuses(INDEX, "work", 8);
        });
        test("The thread of a core that runs is the one with the lowest number that has work left.", () -> {
            Both b = chip("bb");
            b.is(0, "thread", 0, 1, 0);
            b.is(1, "thread", 1, 50, 0);
            b.is(2, "thread", 0, 50, 0);
            b.call("governor", 0, 'f', 1);
            b.call("governor", 1, 'f', 0);
            b.pass(3);
            b.is(0, "work", 0);
            b.is(50, "work", 2);
            b.pass(1);
            b.is(47, "work", 2);
            b.is(1, "move", 1, 0);
            b.pass(1);
            b.is(49, "work", 1);
            b.is(47, "work", 2);
            b.is(1, "feed", 0, 1);
            b.pass(1);
            b.is(0, "work", 0);
            b.is(49, "work", 1);
        });
        test("A core with such a thread is busy;", () -> {
            Both b = chip("s");
            b.is(false, "isBusy", 0);
            b.is(0, "thread", 0, 1, 0);
            b.is(true, "isBusy", 0);
            b.call("governor", 0, 'f', 1);
            b.pass(3);
            b.is(0, "work", 0);
            b.is(false, "isBusy", 0);
        });
        test("in a tick it is so as at its beginning.", () -> {
            Both b = busy('b', 1, 3, 0);
            b.pass(3);
            b.is(false, "isBusy", 0);
            b.is(11 + 2, "taken");
            b.pass(1);
            b.is(2 + 2, "taken");
        });
        test("It does work in a tick: its speed times 2, or 3 of a big one, times 10 less the memory, divided by 10, cut, "
                + "at least 1 with a speed above 0;", () -> {
            checkWork('s', 4, 0, 8, false);
            checkWork('s', 3, 5, 3, false);
            checkWork('s', 1, 4, 1, false);
            checkWork('s', 1, 6, 1, false);
            checkWork('s', 4, 9, 1, false);
            checkWork('b', 1, 0, 3, false);
            checkWork('b', 3, 3, 6, false);
            checkWork('b', 1, 7, 1, false);
            checkWork('b', 1, 9, 1, false);
            checkWork('s', 0, 0, 0, false);
            checkWork('b', 0, 9, 0, false);
            Both b = busy('b', 2, 5, 0);
            b.pass(10);
            b.is(0, "work", 0);
        });
        test("half of that, cut, perhaps nothing, as long as the thread is cold.", () -> {
            checkWork('s', 4, 0, 4, true);
            checkWork('b', 1, 0, 1, true);
            checkWork('b', 3, 1, 4, true);
            checkWork('s', 1, 9, 0, true);
            checkWork('b', 1, 9, 0, true);
            checkWork('s', 0, 0, 0, true);
        });
        test("A thread is cold for 5 ticks in which it runs on a core with a speed above 0, behind a move to another core, "
                + "and all of a core, as it is awake behind deep sleep.", () -> {
            coldForFiveTicks();
            coldTicksNeedASpeed();
            coldTicksNeedARun();
            refusedMovesLeaveNoneCold();
            deepSleepLeavesAllCold();
            lightSleepLeavesNoneCold();
        });
    }

    private static void checkWork(char kind, int speed, int memory, int due, boolean cold) {
        Both b = busy(kind, speed, MUCH, memory);
        b.call("core", 1, 's');
        b.pass(20);
        b.is(speed, "speed", 0);
        if (cold) {
            b.call("move", 0, 1);
            b.call("move", 0, 0);
        }
        int before = b.chip.work(0);
        b.pass(1);
        b.is(before - due, "work", 0);
    }

    private static void coldForFiveTicks() {
        Both b = busy('b', 1, 1000, 0);
        b.call("core", 1, 's');
        b.pass(5);
        b.call("move", 0, 1);
        b.call("move", 0, 0);
        int work = b.chip.work(0);
        for (int tick = 1; tick <= 5; tick++) {
            b.is(true, "isCold", 0);
            b.pass(1);
            b.is(work - tick, "work", 0);
        }
        b.is(false, "isCold", 0);
        b.pass(1);
        b.is(work - 8, "work", 0);
    }

    private static void coldTicksNeedASpeed() {
        Both b = chip("ss");
        b.is(0, "thread", 0, 100, 0);
        b.call("governor", 1, 'f', 0);
        b.is(0, "move", 0, 1);
        b.pass(20);
        b.is(true, "isCold", 0);
        b.call("governor", 1, 'f', 1);
        b.pass(2 + 4);
        b.is(true, "isCold", 0);
        b.pass(1);
        b.is(false, "isCold", 0);
    }

    private static void coldTicksNeedARun() {
        Both b = chip("bb");
        b.is(0, "thread", 0, 8, 0);
        b.is(1, "thread", 1, 100, 0);
        b.call("governor", 0, 'f', 1);
        b.is(1, "move", 1, 0);
        b.pass(5);
        b.is(0, "work", 0);
        b.is(true, "isCold", 1);
        b.is(100, "work", 1);
        b.pass(5);
        b.is(false, "isCold", 1);
        b.is(95, "work", 1);
    }

    private static void refusedMovesLeaveNoneCold() {
        Both b = chip("ss");
        b.is(0, "thread", 0, 8, 0);
        b.refuses(UnsupportedOperationException.class, "move", 0, 0);
        b.refuses(INDEX, "move", 0, 2);
        b.is(false, "isCold", 0);
    }

    private static void deepSleepLeavesAllCold() {
        Both b = chip("sss");
        b.is(0, "thread", 0, 1, 0);
        b.call("governor", 0, 'f', 1);
        b.is(1, "thread", 1, MUCH, 0);
        b.pass(13);
        b.is('d', "sleep", 0);
        b.is(2, "thread", 0, 9, 0);
        b.is(3, "thread", 0, 9, 0);
        b.pass(3);
        b.is(1, "move", 1, 2);
        b.pass(1);
        b.is('w', "sleep", 0);
        for (int thread : new int[] {0, 2, 3}) {
            b.is(false, "isCold", thread);
        }
        b.is(4, "thread", 2, 9, 0);
        b.pass(1);
        b.is('a', "sleep", 0);
        for (int thread : new int[] {0, 2, 3}) {
            b.is(true, "isCold", thread);
        }
        b.is(false, "isCold", 4);
    }

    private static void lightSleepLeavesNoneCold() {
        Both b = chip("s");
        b.pass(9);
        b.is('l', "sleep", 0);
        b.is(0, "thread", 0, 9, 0);
        check.same("wakes", "wa", path(b, 2));
        b.is(false, "isCold", 0);
    }

    private static void ofSleep() {
        title = "Sleep";
        test("A core is awake 'a', in light sleep 'l', in deep sleep 'd', or waking 'w'.", () -> {
            Both b = chip("s");
            check.same("to sleep", "aallllllldd", path(b, 11));
            b.is(0, "thread", 0, MUCH, 0);
            check.same("and awake", "wwwwa", path(b, 5));
        });
        test("One that is awake and not busy for 3 ticks one behind the other goes into light sleep, for 10 into deep sleep.",
                () -> {
            check.same("2, 3, 9 and 10 ticks", "aallllllld", path(chip("b"), 10));
            Both broken = chip("bs");
            broken.pass(2);
            broken.is(0, "thread", 0, MUCH, 0);
            broken.pass(1);
            broken.is(0, "move", 0, 1);
            check.same("a busy tick between", "aallllllld", path(broken, 10));
            check.same("never while busy", "aaaaaaaaaaaa", path(busy('s', 0, MUCH, 0), 12));
            Both waits = chip("sss");
            waits.pass(9);
            for (int core = 2; core >= 0; core--) {
                waits.call("thread", core, MUCH, 0);
            }
            waits.pass(1);
            check.same("a sleeper that was busy", "wwl", sleeps(waits, 3));
            waits.is(2, "move", 0, 0);
            waits.pass(9);
            waits.is('l', "sleep", 2);
            waits.pass(1);
            waits.is('d', "sleep", 2);
        });
        test("One that sleeps and is busy begins to wake, at most 2 in a tick, by numbers;", () -> {
            for (int busy = 1; busy <= 5; busy++) {
                Both b = chip("ssssss");
                b.pass(3);
                for (int core = 5; core > 5 - busy; core--) {
                    b.call("thread", core, MUCH, 0);
                }
                b.pass(1);
                String[] due = {"lllllw", "llllww", "lllwwl", "llwwll", "lwwlll"};
                check.same(busy + " busy sleepers", due[busy - 1], sleeps(b, 6));
            }
            Both deep = chip("ssssss");
            deep.pass(10);
            for (int core = 0; core < 6; core++) {
                deep.call("thread", core, MUCH, 0);
            }
            for (String due : new String[] {"wwdddd", "wwwwdd", "wwwwww", "wwwwww", "aawwww", "aaaaww", "aaaaaa"}) {
                deep.pass(1);
                check.same("those that wake already count for nothing", due, sleeps(deep, 6));
            }
        });
        test("it is awake 1 tick later, 4 ticks later from deep sleep, busy or not;", () -> {
            for (boolean leaves : new boolean[] {false, true}) {
                for (int ticks : new int[] {3, 9, 10, 30}) {
                    Both b = chip("ss");
                    b.pass(ticks);
                    b.is(0, "thread", 0, MUCH, 0);
                    b.pass(1);
                    if (leaves) {
                        b.is(0, "move", 0, 1);
                    }
                    check.same("behind " + ticks, ticks < 10 ? "a" : "wwwa", path(b, ticks < 10 ? 1 : 4));
                }
            }
        });
        test("the ticks in which it is not busy are counted from the next one on.", () -> {
            for (int ticks : new int[] {3, 10}) {
                Both b = chip("ss");
                b.pass(ticks);
                b.is(0, "thread", 0, MUCH, 0);
                b.pass(1);
                b.is(0, "move", 0, 1);
                b.pass(ticks == 3 ? 1 : 4);
                b.is('a', "sleep", 0);
                check.same("3 and 10 ticks behind that", "aallllllld", path(b, 10));
            }
        });
    }

    private static void ofWishes() {
        title = "Speeds";
        test("In each tick the governor of a core wants a speed: 'f' a fixed one;", () -> {
            for (int speed = 0; speed <= 7; speed++) {
                Both b = chip("b");
                b.call("governor", 0, 'f', speed);
                b.pass(1);
                b.is(speed, "wanted", 0);
                b.is(0, "thread", 0, MUCH, 0);
                b.pass(1);
                b.is(speed, "wanted", 0);
            }
        });
        test("'l' the speed of the tick ahead, and 1 more if it was busy then, otherwise 1 less;", () -> {
            Both b = busy('b', 3, MUCH, 9);
            b.pass(9);
            b.is(3, "speed", 0);
            b.is('f', "governor", 0, 'l', 0);
            b.pass(1);
            b.is(4, "wanted", 0);
            b.is(3, "speed", 0);
            b.pass(1);
            b.is(4, "wanted", 0);
            b.call("core", 1, 's');
            b.call("move", 0, 1);
            int speed = b.chip.speed(0);
            b.pass(1);
            b.is(speed + 1, "wanted", 0);
            speed = b.chip.speed(0);
            b.pass(1);
            b.is(speed - 1, "wanted", 0);
        });
        test("'w' 3 for each thread on it that has work left;", () -> {
            Both b = chip("bb");
            b.call("governor", 0, 'w', 0);
            b.pass(1);
            b.is(0, "wanted", 0);
            b.is(0, "thread", 0, 1, 0);
            b.is(1, "thread", 1, MUCH, 0);
            b.pass(1);
            b.is(3, "wanted", 0);
            b.is(2, "thread", 0, MUCH, 0);
            b.pass(1);
            b.is(6, "wanted", 0);
            b.pass(1);
            b.is(0, "work", 0);
            b.pass(1);
            b.is(3, "wanted", 0);
        });
        test("from 0 to the greatest of its kind;", TermsOfCoresTest::wishesStayInTheirKind);
        test("it is 'l' at first.", () -> {
            Both b = chip("bs");
            b.is('l', "governor", 0, 'l', 0);
            b.is('l', "governor", 1, 'f', 0);
            b.pass(50);
            b.is(2, "core", 0, 's');
            b.is('l', "governor", 2, 'l', 0);
        });
    }

    private static void wishesStayInTheirKind() {
        Both idle = chip("bs");
        idle.pass(1);
        idle.is(0, "wanted", 0);
        idle.pass(1);
        idle.is(0, "wanted", 0);
        for (char kind : new char[] {'s', 'b'}) {
            int greatest = kind == 's' ? 4 : 7;
            Both b = busy(kind, 7, MUCH, 0);
            b.pass(3 * greatest + 1);
            b.is(greatest, "wanted", 0);
            b.is(greatest, "speed", 0);
            b.is('f', "governor", 0, 'l', 0);
            b.pass(1);
            b.is(greatest, "wanted", 0);
            for (int threads = 2; threads <= 8; threads++) {
                b.call("thread", 0, MUCH, 0);
            }
            b.is('l', "governor", 0, 'w', 0);
            b.pass(1);
            b.is(greatest, "wanted", 0);
        }
    }

    /** Two busy cores that want 3, on rails of their own, with nothing in the battery and 4 owed in the last tick. */
    private static Both inDebt() {
        Both b = exhausted();
        b.pass(1);
        b.is(4, "owed");
        b.call("governor", 0, 'f', 3);
        b.call("governor", 1, 'f', 3);
        return b;
    }

    /** As above, but with the battery just empty and nothing owed yet. */
    private static Both exhausted() {
        Both b = chip("");
        addBusy(b, 0, 'b', 0);
        addBusy(b, 1, 'b', 0);
        b.call("wall", 0);
        b.pass(1250);
        b.is(0, "battery");
        b.is(0, "owed");
        return b;
    }

    private static void ofLimits() {
        test("What a core may have is the least of that and of what these tell: 'r' it is retired: 0;", () -> {
            Both b = busy('b', 1, MUCH, 0);
            b.call("wear", 0, 999);
            b.call("wear", 0, 10);
            b.pass(40);
            b.is(100, "age", 0);
            b.is('-', "clamp", 0);
            b.is(1, "speed", 0);
            b.call("wear", 0, 1);
            b.pass(1);
            b.is('r', "clamp", 0);
            b.is(0, "speed", 0);
        });
        test("'t' it is tripped: 0;", () -> {
            Both b = busy('b', 1, MUCH, 0);
            b.pass(5);
            warm(b, 0, 99);
            b.pass(2);
            b.is('-', "clamp", 0);
            warm(b, 0, 100);
            b.pass(1);
            b.is('t', "clamp", 0);
            b.is(0, "speed", 0);
        });
        test("'o' power was owed in the tick ahead: 0;", () -> {
            Both b = exhausted();
            b.call("governor", 0, 'f', 1);
            b.pass(1);
            b.is(4, "owed");
            b.is('-', "clamp", 0);
            b.call("wall", 3);
            b.pass(1);
            b.is(1, "owed");
            b.is('o', "clamp", 0);
            b.call("wall", 999);
            b.pass(1);
            b.is(0, "owed");
            b.is('o', "clamp", 0);
            b.is(0, "speed", 0);
            b.pass(1);
            b.is('-', "clamp", 0);
        });
        test("'n' its sensor is lost: 2;", () -> {
            Both b = busy('b', 3, MUCH, 9);
            b.pass(9);
            b.is(3, "speed", 0);
            b.call("lose", 0, true);
            b.pass(1);
            b.is(2, "speed", 0);
            b.is('n', "clamp", 0);
            b.call("lose", 0, false);
            b.pass(1);
            b.is('-', "clamp", 0);
        });
        test("'p' the purse is empty: 2;", TermsOfCoresTest::onlyAnEmptyPurseClamps);
        test("'q' a request holds: what it tells.", () -> {
            for (int told = 0; told <= 7; told++) {
                Both b = busy('b', 4, MUCH, 9);
                b.pass(12);
                b.is(4, "speed", 0);
                b.is(1, "request", 1, told);
                b.pass(1);
                b.is(told < 4 ? 'q' : '-', "clamp", 0);
                b.is(Math.min(told, 4), "speed", 0);
            }
        });
        test("What clamps it is the first of these that tells this least, if that is less than what is wanted, else '-'.",
                () -> {
            theFirstOfThoseThatTellNothing();
            theFirstOfThoseThatTellTwo();
            onlyIfItIsLess();
        });
        test("A core that is not awake may have 0, whatever clamps it.", TermsOfCoresTest::sleepersMayHaveNothing);
    }

    private static void onlyAnEmptyPurseClamps() {
        boolean one = false;
        boolean none = false;
        for (int heat = 1; heat <= 9999 && !(one && none); heat += 20) {
            Both b = chip("");
            addBusy(b, 0, 's', 0);
            addBusy(b, 1, 'b', 3);
            for (int i = 0; i < 6; i++) {
                b.call("heatUp", 0, 9999);
            }
            b.call("heatUp", 0, heat);
            b.pass(2);
            int purse = b.chip.purse();
            b.pass(1);
            if (purse <= 1) {
                b.is(purse == 0 ? 'p' : '-', "clamp", 1);
                one = one || purse == 1;
                none = none || purse == 0;
            }
        }
        check.yes("a purse of 1 was met", one);
        check.yes("an empty purse was met", none);
    }

    private static void theFirstOfThoseThatTellNothing() {
        Both b = inDebt();
        b.is(1, "request", 1, 0);
        b.call("lose", 1, true);
        b.pass(1);
        b.is('o', "clamp", 1);
        warm(b, 1, 101);
        b.pass(1);
        b.is('o', "clamp", 0);
        b.is('t', "clamp", 1);
        b.call("wear", 1, 999);
        b.call("wear", 1, 999);
        b.pass(1);
        b.is('r', "clamp", 1);
        b.call("wall", 999);
        b.pass(2);
        b.is('q', "clamp", 0);
        b.is('r', "clamp", 1);
    }

    private static void theFirstOfThoseThatTellTwo() {
        Both b = chip("");
        addBusy(b, 0, 'b', 0);
        addBusy(b, 1, 'b', 4);
        b.call("wall", 999);
        for (int i = 0; i < 9; i++) {
            b.call("heatUp", 0, 9999);
        }
        b.is(1, "request", 1, 2);
        b.call("lose", 1, true);
        b.pass(3);
        b.is(0, "purse");
        b.is('n', "clamp", 1);
        b.call("lose", 1, false);
        b.pass(1);
        b.is('p', "clamp", 1);
        b.is(2, "request", 2, 1);
        b.call("lose", 1, true);
        b.pass(1);
        b.is('q', "clamp", 1);
        b.is(3, "request", 3, 3);
        b.pass(1);
        b.is('n', "clamp", 1);
    }

    private static void onlyIfItIsLess() {
        Both b = busy('b', 2, MUCH, 9);
        b.call("lose", 0, true);
        b.is(1, "request", 1, 2);
        b.pass(1);
        b.is('-', "clamp", 0);
        b.call("governor", 0, 'f', 3);
        b.pass(1);
        b.is('n', "clamp", 0);
        b.call("governor", 0, 'f', 1);
        b.pass(1);
        b.is('-', "clamp", 0);
        Both debt = inDebt();
        debt.call("governor", 0, 'f', 0);
        debt.call("wear", 0, 999);
        debt.call("wear", 0, 999);
        debt.pass(1);
        debt.is('-', "clamp", 0);
        debt.is('o', "clamp", 1);
    }

    private static void sleepersMayHaveNothing() {
        Both b = chip("bb");
        b.call("governor", 0, 'f', 1);
        b.is(0, "thread", 1, MUCH, 9);
        b.call("governor", 1, 'f', 2);
        b.pass(2);
        b.is('a', "sleep", 0);
        b.call("governor", 0, 'f', 5);
        for (char due : "llllllld".toCharArray()) {
            b.pass(1);
            b.is(due, "sleep", 0);
            b.is(0, "speed", 0);
            b.is(5, "wanted", 0);
            b.is('-', "clamp", 0);
        }
        b.is(620, "volts", 0);
        b.call("lose", 0, true);
        b.is(1, "thread", 0, MUCH, 0);
        for (char due : "wwww".toCharArray()) {
            b.pass(1);
            b.is(due, "sleep", 0);
            b.is(0, "speed", 0);
            b.is('n', "clamp", 0);
        }
        b.is(620, "volts", 0);
        b.pass(1);
        b.is('a', "sleep", 0);
        b.is(2, "speed", 0);
    }

    private static void ofRails() {
        title = "Rails";
        test("Each has a voltage, 500 at first.", () -> {
            Both b = chip("b");
            for (int rail = 0; rail < 3; rail++) {
                b.is(500, "volts", rail);
            }
        });
        test("In each tick it goes by at most 20 towards the greatest need of the speeds that its cores may have, 500 at "
                + "least.", () -> {
            towardsTheNeed();
            theGreatestNeedOfTwo();
            atLeastFiveHundred();
        });
        test("Then the speed of a core is the greatest one, up to what it may have, for which the voltage is enough, 0 if "
                + "even that is not.", () -> {
            upToWhatItMayHave();
            exactlyEnough();
            notEvenForNothing();
        });
    }

    private static void towardsTheNeed() {
        Both b = busy('s', 1, MUCH, 9);
        b.call("wear", 0, 50);
        for (int due : new int[] {520, 540, 560, 565, 565}) {
            b.pass(1);
            b.is(due, "volts", 0);
        }
        b.call("governor", 0, 'f', 0);
        for (int due : new int[] {545, 525, 505, 505}) {
            b.pass(1);
            b.is(due, "volts", 0);
        }
        b.call("wear", 0, 200);
        b.pass(1);
        b.is(525, "volts", 0);
        b.call("wear", 0, 210);
        b.pass(1);
        b.is(545, "volts", 0);
        b.pass(1);
        b.is(546, "volts", 0);
    }

    private static void theGreatestNeedOfTwo() {
        Both b = chip("");
        addBusy(b, 1, 's', 1);
        addBusy(b, 1, 'b', 2);
        addBusy(b, 2, 'b', 3);
        b.pass(9);
        b.is(500, "volts", 0);
        b.is(620, "volts", 1);
        b.is(680, "volts", 2);
        b.call("governor", 1, 'f', 0);
        b.pass(3);
        b.is(560, "volts", 1);
        b.pass(1);
        b.is(560, "volts", 1);
        b.call("governor", 0, 'f', 0);
        b.call("wear", 1, 130);
        b.pass(3);
        b.is(513, "volts", 1);
        b.call("lose", 2, true);
        b.pass(3);
        b.is(620, "volts", 2);
    }

    private static void atLeastFiveHundred() {
        Both b = busy('s', 0, MUCH, 9);
        b.pass(3);
        for (int rail = 0; rail < 3; rail++) {
            b.is(500, "volts", rail);
        }
    }

    private static void upToWhatItMayHave() {
        Both b = chip("");
        addBusy(b, 0, 'b', 3);
        addBusy(b, 0, 'b', 1);
        b.pass(9);
        b.is(680, "volts", 0);
        b.is(3, "speed", 0);
        b.is(1, "speed", 1);
        b.is(1, "request", 1, 2);
        b.pass(1);
        b.is(660, "volts", 0);
        b.is(2, "speed", 0);
    }

    private static void exactlyEnough() {
        Both b = busy('b', 7, MUCH, 9);
        b.call("wear", 0, 10);
        b.pass(3);
        b.is(560, "volts", 0);
        b.is(0, "speed", 0);
        b.pass(1);
        b.is(1, "speed", 0);
        Both exact = busy('b', 7, MUCH, 9);
        exact.pass(2);
        exact.is(0, "speed", 0);
        exact.pass(1);
        exact.is(560, "volts", 0);
        exact.is(1, "speed", 0);
        exact.pass(3);
        exact.is(620, "volts", 0);
        exact.is(2, "speed", 0);
    }

    private static void notEvenForNothing() {
        Both b = busy('b', 0, MUCH, 9);
        b.call("wear", 0, 900);
        b.pass(1);
        b.is(520, "volts", 0);
        b.is(590, "need", 0, 0);
        b.is(0, "speed", 0);
        b.call("governor", 0, 'f', 7);
        b.pass(1);
        b.is(0, "speed", 0);
        b.is('-', "clamp", 0);
    }
}
