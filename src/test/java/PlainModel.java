import java.math.BigInteger;
import java.util.ArrayList;
import java.util.List;
import java.util.NoSuchElementException;

/**
 * The document read a second time, sentence by sentence, in the plainest form and with the Java library,
 * so that other tests can compare both readings. Shares no code with the class. Heat and power have no bound here;
 * of a number that its type can't hold, both readings tell the lowest bits.
 */
final class PlainModel {
    private final List<Integer> railOf = new ArrayList<>();
    private final List<Character> kindOf = new ArrayList<>();
    private final List<Integer> homeOf = new ArrayList<>();
    private final List<Integer> memoryOf = new ArrayList<>();
    private final int[] left = new int[8];
    private final int[] cold = new int[8];
    private final char[] governor = new char[6];
    private final int[] fixed = new int[6];
    private final int[] speed = new int[6];
    private final int[] wanted = new int[6];
    private final int[] may = new int[6];
    private final char[] clamp = new char[6];
    private final String[] sleep = new String[6];
    private final int[] idle = new int[6];
    private final int[] awakeAt = new int[6];
    private final boolean[] busyAhead = new boolean[6];
    private final BigInteger[] heat = new BigInteger[6];
    private final BigInteger[] tells = new BigInteger[6];
    private final boolean[] lost = new boolean[6];
    private final boolean[] tripped = new boolean[6];
    private final int[] wear = new int[6];
    private final int[] volts = {500, 500, 500};
    private BigInteger caseHeat = big(4000);
    private int fan = 0;
    private boolean fanDead = false;
    private int tick = 0;
    private int wall = 200;
    private BigInteger battery = big(5000);
    private BigInteger purse = big(600);
    private BigInteger taken = big(0);
    private BigInteger owed = big(0);
    private BigInteger sumWall = big(0);
    private BigInteger sumBattery = big(0);
    private BigInteger sumOwed = big(0);
    private BigInteger sumOutside = big(0);
    private BigInteger sumAir = big(0);
    private BigInteger sumTaken = big(0);
    private int made = 0;
    private int newest = 0;
    private int[] held = null;
    private int[] next = null;
    private char why = '-';

    private static BigInteger big(long number) {
        return BigInteger.valueOf(number);
    }

    private static BigInteger cut(BigInteger number, long divisor) {
        return number.divide(big(divisor));
    }

    private static boolean atLeast(BigInteger number, long least) {
        return number.compareTo(big(least)) >= 0;
    }

    private BigInteger coreDegrees(int core) {
        return cut(heat[core], 20);
    }

    private void needCore(int core) {
        if (core < 0 || core >= railOf.size()) {
            throw new IndexOutOfBoundsException();
        }
    }

    private void needThread(int thread) {
        if (thread < 0 || thread >= homeOf.size()) {
            throw new IndexOutOfBoundsException();
        }
    }

    private static void needRange(int number, int least, int most) {
        if (number < least || number > most) {
            throw new IllegalArgumentException();
        }
    }

    private static void needState(boolean good) {
        if (!good) {
            throw new IllegalStateException();
        }
    }

    int core(int rail, char kind) {
        if (rail < 0 || rail > 2) {
            throw new IndexOutOfBoundsException();
        }
        if ("sb".indexOf(kind) < 0) {
            throw new IllegalArgumentException();
        }
        needState(railOf.size() < 6);
        int core = railOf.size();
        railOf.add(rail);
        kindOf.add(kind);
        governor[core] = 'l';
        clamp[core] = '-';
        sleep[core] = "awake";
        heat[core] = big(400);
        tells[core] = big(20);
        return core;
    }

    int thread(int core, int work, int memory) {
        needCore(core);
        needRange(work, 1, 99999);
        needRange(memory, 0, 9);
        needState(homeOf.size() < 8);
        homeOf.add(core);
        memoryOf.add(memory);
        left[homeOf.size() - 1] = work;
        return homeOf.size() - 1;
    }

    int feed(int thread, int work) {
        needThread(thread);
        needRange(work, 1, 99999);
        needState(left[thread] + work <= 999999);
        return left[thread] += work;
    }

    int move(int thread, int core) {
        needThread(thread);
        needCore(core);
        if (homeOf.get(thread) == core) {
            throw new UnsupportedOperationException();
        }
        cold[thread] = 5;
        return homeOf.set(thread, core);
    }

    char governor(int core, char kind, int speed) {
        needCore(core);
        if ("flw".indexOf(kind) < 0) {
            throw new IllegalArgumentException();
        }
        if (kind == 'f') {
            needRange(speed, 0, 7);
            fixed[core] = speed;
        }
        char before = governor[core];
        governor[core] = kind;
        return before;
    }

    int work(int thread) {
        needThread(thread);
        return left[thread];
    }

    boolean isCold(int thread) {
        needThread(thread);
        return cold[thread] > 0;
    }

    int pass(int ticks) {
        needRange(ticks, 1, 100);
        needState(tick + ticks <= 9999);
        for (int i = 0; i < ticks; i++) {
            oneTick();
        }
        return tick;
    }

    int speed(int core) {
        needCore(core);
        return speed[core];
    }

    int wanted(int core) {
        needCore(core);
        return wanted[core];
    }

    char clamp(int core) {
        needCore(core);
        return clamp[core];
    }

    char sleep(int core) {
        needCore(core);
        return sleep[core].charAt(0);
    }

    boolean isBusy(int core) {
        needCore(core);
        return !threadsWithWork(core).isEmpty();
    }

    int need(int core, int speed) {
        needCore(core);
        needRange(speed, 0, kindOf.get(core) == 's' ? 4 : 7);
        return millivolts(core, speed);
    }

    int volts(int rail) {
        if (rail < 0 || rail > 2) {
            throw new IndexOutOfBoundsException();
        }
        return volts[rail];
    }

    int heat(int core) {
        needCore(core);
        return heat[core].intValue();
    }

    int degrees(int core) {
        needCore(core);
        return coreDegrees(core).intValue();
    }

    int caseDegrees() {
        return cut(caseHeat, 200).intValue();
    }

    int sensor(int core) {
        needCore(core);
        if (lost[core]) {
            throw new NoSuchElementException();
        }
        return tells[core].intValue();
    }

    boolean lose(int core, boolean is) {
        needCore(core);
        boolean before = lost[core];
        lost[core] = is;
        return before;
    }

    boolean isTripped(int core) {
        needCore(core);
        return tripped[core];
    }

    int fan() {
        return fan;
    }

    boolean killFan(boolean is) {
        boolean before = fanDead;
        fanDead = is;
        fan = is ? 0 : fan;
        return before;
    }

    int heatUp(int core, int more) {
        needCore(core);
        needRange(more, 1, 9999);
        needState(!atLeast(heat[core].add(big(more)), 100000));
        heat[core] = heat[core].add(big(more));
        sumOutside = sumOutside.add(big(more));
        return degrees(core);
    }

    int wall(int gives) {
        needRange(gives, 0, 999);
        int before = wall;
        wall = gives;
        return before;
    }

    int battery() {
        return battery.intValue();
    }

    int purse() {
        return purse.intValue();
    }

    int taken() {
        return taken.intValue();
    }

    int owed() {
        return owed.intValue();
    }

    int request(int number, int speed) {
        boolean badNumber = number < 1 || number > 9999;
        boolean badSpeed = speed < 0 || speed > 7;
        boolean stale = number <= newest;
        why = badNumber ? 'n' : badSpeed ? 'v' : stale ? 's' : why;
        if (badNumber || badSpeed) {
            throw new IllegalArgumentException();
        }
        if (stale) {
            throw new UnsupportedOperationException();
        }
        newest = number;
        next = new int[] {number, speed};
        return ++made;
    }

    int holds() {
        return held == null ? 0 : held[0];
    }

    char why() {
        return why;
    }

    boolean drop() {
        boolean any = held != null || next != null;
        held = null;
        next = null;
        return any;
    }

    int age(int core) {
        needCore(core);
        return wear[core] / 10;
    }

    boolean isRetired(int core) {
        return age(core) > 100;
    }

    int wear(int core, int more) {
        needCore(core);
        needRange(more, 1, 999);
        needState(wear[core] + more <= 9999);
        return wear[core] += more;
    }

    long account(char kind) {
        BigInteger[] all = {sumWall, sumBattery, sumOwed, sumOutside, sumAir, sumTaken};
        int at = "wbohat".indexOf(kind);
        if (at < 0) {
            throw new IllegalArgumentException();
        }
        return all[at].longValue();
    }

    long checksum() {
        List<BigInteger> parts = new ArrayList<>();
        for (int core = 0; core < railOf.size(); core++) {
            parts.add(big(speed[core]));
            parts.add(heat[core]);
        }
        for (int thread = 0; thread < homeOf.size(); thread++) {
            parts.add(big(left[thread]));
        }
        parts.add(caseHeat);
        parts.add(battery);
        BigInteger sum = big(7);
        for (BigInteger part : parts) {
            sum = big(31).multiply(sum).add(part);
        }
        return sum.longValue();
    }

    float busyShare() {
        if (railOf.isEmpty()) {
            throw new NoSuchElementException();
        }
        int busy = 0;
        for (int core = 0; core < railOf.size(); core++) {
            busy += isBusy(core) ? 1 : 0;
        }
        return (float) busy / (float) railOf.size();
    }

    double meanDegrees() {
        if (railOf.isEmpty()) {
            throw new NoSuchElementException();
        }
        BigInteger sum = big(0);
        for (int core = 0; core < railOf.size(); core++) {
            sum = sum.add(coreDegrees(core));
        }
        return sum.doubleValue() / (double) railOf.size();
    }

    boolean isSound() {
        BigInteger inside = caseHeat.add(sumAir);
        BigInteger came = big(4000).add(sumTaken).add(sumOutside);
        for (int core = 0; core < railOf.size(); core++) {
            inside = inside.add(heat[core]);
            came = came.add(big(400));
        }
        return inside.equals(came) && sumTaken.equals(sumWall.add(sumBattery).add(sumOwed))
                && atLeast(battery, 0) && !atLeast(battery, 5001);
    }

    /** The number of bits of the greatest heat, so that a test can tell how far a chip has run away. */
    int bitsOfHeat() {
        int most = caseHeat.bitLength();
        for (int core = 0; core < railOf.size(); core++) {
            most = Math.max(most, heat[core].bitLength());
        }
        return most;
    }

    private List<Integer> threadsWithWork(int core) {
        List<Integer> found = new ArrayList<>();
        for (int thread = 0; thread < homeOf.size(); thread++) {
            if (homeOf.get(thread) == core && left[thread] > 0) {
                found.add(thread);
            }
        }
        return found;
    }

    private int millivolts(int core, int someSpeed) {
        return 500 + 60 * someSpeed + wear[core] / 10 + (atLeast(coreDegrees(core), 80) ? 25 : 0);
    }

    private void oneTick() {
        tick++;
        int cores = railOf.size();
        boolean[] busy = new boolean[6];
        for (int core = 0; core < cores; core++) {
            busy[core] = isBusy(core);
        }
        if (next != null) {
            held = next;
            next = null;
        }
        for (int core = 0; core < cores; core++) {
            BigInteger degrees = coreDegrees(core);
            if (tick % 4 == 0) {
                tells[core] = degrees.testBit(0) ? degrees.subtract(big(1)) : degrees;
            }
            tripped[core] = atLeast(degrees, 100) || tripped[core] && atLeast(degrees, 90);
            wear[core] += atLeast(degrees, 85) ? 1 : 0;
        }
        sleepStep(cores, busy);
        for (int core = 0; core < cores; core++) {
            wishAndClamp(core);
        }
        railsAndSpeeds(cores);
        for (int core = 0; core < cores; core++) {
            workStep(core);
        }
        BigInteger power = powerOf(cores, busy);
        for (int core = 0; core < cores; core++) {
            BigInteger flow = coreDegrees(core).subtract(cut(caseHeat, 200));
            heat[core] = heat[core].subtract(flow);
            caseHeat = caseHeat.add(flow);
        }
        BigInteger toAir = cut(cut(caseHeat, 200).subtract(big(20)).multiply(big(1 + fan)), 2);
        caseHeat = caseHeat.subtract(toAir);
        fanStep();
        sumAir = sumAir.add(toAir).add(big(5 * fan));
        supplyStep(power.add(big(5 * fan)));
        System.arraycopy(busy, 0, busyAhead, 0, 6);
    }

    private void sleepStep(int cores, boolean[] busy) {
        int begun = 0;
        for (int core = 0; core < cores; core++) {
            boolean wakes = sleep[core].startsWith("w");
            if (wakes && awakeAt[core] == tick) {
                if (sleep[core].equals("wake from deep")) {
                    for (int thread = 0; thread < homeOf.size(); thread++) {
                        cold[thread] = homeOf.get(thread) == core ? 5 : cold[thread];
                    }
                }
                sleep[core] = "awake";
                idle[core] = 0;
            } else if (!wakes) {
                idle[core] = busy[core] ? 0 : idle[core] + 1;
                boolean asleep = !sleep[core].equals("awake");
                if (asleep && busy[core] && begun < 2) {
                    begun++;
                    awakeAt[core] = tick + (sleep[core].equals("deep") ? 4 : 1);
                    sleep[core] = "wake from " + sleep[core];
                } else if (idle[core] == 3 && !asleep) {
                    sleep[core] = "light";
                } else if (idle[core] == 10) {
                    sleep[core] = "deep";
                }
            }
        }
    }

    private void wishAndClamp(int core) {
        int wish = fixed[core];
        if (governor[core] == 'l') {
            wish = speed[core] + (busyAhead[core] ? 1 : -1);
        }
        if (governor[core] == 'w') {
            wish = 3 * threadsWithWork(core).size();
        }
        wanted[core] = Math.min(Math.max(wish, 0), kindOf.get(core) == 's' ? 4 : 7);
        int none = 99;
        int[] tellers = {
            wear[core] / 10 > 100 ? 0 : none, tripped[core] ? 0 : none, owed.signum() > 0 ? 0 : none,
            lost[core] ? 2 : none, purse.signum() == 0 ? 2 : none, held != null ? held[1] : none};
        int least = none;
        for (int told : tellers) {
            least = Math.min(least, told);
        }
        clamp[core] = '-';
        for (int i = tellers.length - 1; i >= 0; i--) {
            if (tellers[i] == least && least < wanted[core]) {
                clamp[core] = "rtonpq".charAt(i);
            }
        }
        may[core] = sleep[core].equals("awake") ? Math.min(least, wanted[core]) : 0;
    }

    private void railsAndSpeeds(int cores) {
        for (int rail = 0; rail < 3; rail++) {
            int greatest = 500;
            for (int core = 0; core < cores; core++) {
                if (railOf.get(core) == rail) {
                    greatest = Math.max(greatest, millivolts(core, may[core]));
                }
            }
            int step = Math.min(20, Math.abs(greatest - volts[rail]));
            volts[rail] += greatest > volts[rail] ? step : -step;
        }
        for (int core = 0; core < cores; core++) {
            speed[core] = 0;
            for (int some = 1; some <= may[core]; some++) {
                if (millivolts(core, some) <= volts[railOf.get(core)]) {
                    speed[core] = some;
                }
            }
        }
    }

    private void workStep(int core) {
        List<Integer> threads = threadsWithWork(core);
        if (threads.isEmpty() || speed[core] == 0) {
            return;
        }
        int thread = threads.get(0);
        int done = speed[core] * (kindOf.get(core) == 's' ? 2 : 3) * (10 - memoryOf.get(thread)) / 10;
        done = done == 0 ? 1 : done;
        if (cold[thread] > 0) {
            cold[thread]--;
            done /= 2;
        }
        left[thread] = Math.max(0, left[thread] - done);
    }

    private BigInteger powerOf(int cores, boolean[] busy) {
        BigInteger all = big(0);
        for (int core = 0; core < cores; core++) {
            int own = volts[railOf.get(core)];
            BigInteger leak = cut(coreDegrees(core).multiply(big(own)), 5000);
            BigInteger power = switch (sleep[core]) {
                case "deep" -> big(0);
                case "light" -> cut(leak, 2);
                case "awake" -> leak.add(big(busy[core] ? speed[core] * own / 50 : speed[core] * own / 200));
                default -> leak;
            };
            heat[core] = heat[core].add(power);
            all = all.add(power);
        }
        return all;
    }

    private void fanStep() {
        BigInteger degrees = cut(caseHeat, 200);
        int[] up = {40, 50, 60};
        int[] down = {0, 35, 45, 55};
        if (fanDead) {
            fan = 0;
        } else if (fan < 3 && atLeast(degrees, up[fan])) {
            fan++;
        } else if (!atLeast(degrees, down[fan])) {
            fan--;
        }
    }

    private void supplyStep(BigInteger power) {
        BigInteger byWall = power.min(big(wall));
        BigInteger byBattery = power.subtract(byWall).min(battery);
        BigInteger wallLeft = big(wall).subtract(byWall);
        taken = power;
        owed = power.subtract(byWall).subtract(byBattery);
        BigInteger into = wallLeft.min(big(30)).min(big(5000).subtract(battery).add(byBattery));
        battery = battery.subtract(byBattery).add(into);
        sumWall = sumWall.add(byWall).add(into);
        sumBattery = sumBattery.add(byBattery).subtract(into);
        sumOwed = sumOwed.add(owed);
        sumTaken = sumTaken.add(taken);
        purse = purse.add(big(60)).subtract(taken).max(big(0)).min(big(600));
    }
}
