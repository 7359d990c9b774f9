import java.util.NoSuchElementException;

/** The heat and power of a chip, tick by tick. */
public final class Wattgovern {
    private static final int RAILS = 3;
    private static final int MOST_CORES = 6;
    private static final int MOST_THREADS = 8;

    private static final int MOST_WORK_AT_ONCE = 99999;
    private static final int MOST_WORK_LEFT = 999999;
    private static final int MOST_MEMORY = 9;
    private static final int MOST_TICKS_AT_ONCE = 100;
    private static final int MOST_TICKS = 9999;
    private static final int MOST_HEAT_AT_ONCE = 9999;
    private static final int MOST_HEAT = 99999;
    private static final int MOST_FROM_WALL = 999;
    private static final int MOST_NUMBER = 9999;
    private static final int MOST_WEAR_AT_ONCE = 999;
    private static final int MOST_WEAR = 9999;

    private static final char SMALL = 's';
    private static final char BIG = 'b';
    private static final int GREATEST_SMALL = 4;
    private static final int GREATEST_BIG = 7;

    private static final char FIXED = 'f';
    private static final char LADDER = 'l';
    private static final char BY_WORK = 'w';
    private static final int SPEED_FOR_EACH_THREAD = 3;

    private static final char AWAKE = 'a';
    private static final char LIGHT = 'l';
    private static final char DEEP = 'd';
    private static final char WAKING = 'w';
    private static final int IDLE_TO_LIGHT = 3;
    private static final int IDLE_TO_DEEP = 10;
    private static final int WAKE_FROM_LIGHT = 1;
    private static final int WAKE_FROM_DEEP = 4;
    private static final int MOST_BEGIN_TO_WAKE = 2;
    private static final int COLD_TICKS = 5;

    private static final char NOTHING = '-';
    private static final char RETIRED = 'r';
    private static final char TRIPPED = 't';
    private static final char POWER_OWED = 'o';
    private static final char NO_SENSOR = 'n';
    private static final char PURSE_EMPTY = 'p';
    private static final char REQUESTED = 'q';
    private static final int CAREFUL_SPEED = 2;

    private static final char BAD_NUMBER = 'n';
    private static final char BAD_SPEED = 'v';
    private static final char STALE = 's';

    private static final int LEAST_VOLTS = 500;
    private static final int VOLTS_FOR_EACH_SPEED = 60;
    private static final int VOLTS_WHEN_HOT = 25;
    private static final int VOLTS_IN_A_TICK = 20;

    private static final int AIR_DEGREES = 20;
    private static final int CORE_HEAT_AT_FIRST = 400;
    private static final int HEAT_OF_CORE_DEGREE = 20;
    private static final int CASE_HEAT_AT_FIRST = 4000;
    private static final int HEAT_OF_CASE_DEGREE = 200;
    private static final int LEAK_DIVISOR = 5000;
    private static final int HOT = 80;
    private static final int WEARING = 85;
    private static final int TRIPS_FROM = 100;
    private static final int TRIPS_UNTIL = 90;
    private static final int OLDEST = 100;
    private static final int WEAR_OF_AGE = 10;
    private static final int TICKS_OF_SENSOR = 4;

    private static final int FAN_GREATEST = 3;
    private static final int FAN_POWER = 5;

    private static final int WALL_AT_FIRST = 200;
    private static final int BATTERY_FULL = 5000;
    private static final int CHARGE_IN_A_TICK = 30;
    private static final int PURSE_FULL = 600;
    private static final int PURSE_GETS = 60;
    private static final int ABOVE_ALL_SUPPLY = 10000;

    private static final int PART_BITS = 32;
    private static final long PART_MASK = 0xFFFFFFFFL;
    private static final int AMOUNT_PARTS = 16;
    private static final long ENOUGH_BITS = 1L << 61;

    private final Rail[] rails = new Rail[RAILS];
    private final Core[] cores = new Core[MOST_CORES];
    private final Task[] tasks = new Task[MOST_THREADS];
    private final Cooling cooling = new Cooling();
    private final Supply supply = new Supply();
    private final Requests requests = new Requests();
    // made once and used again, as a tick makes no objects
    private final Amount powerOfAll = new Amount();
    private final Amount passing = new Amount();
    private int ticks = 0;
    private long heatFromOutside = 0;

    /** Creates a chip without cores and threads, ahead of its first tick. */
    public Wattgovern() {
        for (int i = 0; i < rails.length; i++) {
            rails[i] = new Rail();
        }
    }

    // ---- cores and threads ----

    public int core(int rail, char kind)
            throws IndexOutOfBoundsException, IllegalArgumentException, IllegalStateException {
        Rail shared = railAt(rail);
        if (kind != SMALL && kind != BIG) {
            throw new IllegalArgumentException("no such kind");
        }
        for (int number = 0; number < cores.length; number++) {
            if (cores[number] == null) {
                cores[number] = new Core(number, shared, kind == BIG);
                return number;
            }
        }
        throw new IllegalStateException("no room for a core");
    }

    public int thread(int core, int work, int memory)
            throws IndexOutOfBoundsException, IllegalArgumentException, IllegalStateException {
        coreAt(core);
        if (!isFrom(1, work, MOST_WORK_AT_ONCE) || !isFrom(0, memory, MOST_MEMORY)) {
            throw new IllegalArgumentException("a number out of range");
        }
        for (int number = 0; number < tasks.length; number++) {
            if (tasks[number] == null) {
                tasks[number] = new Task(core, work, memory);
                return number;
            }
        }
        throw new IllegalStateException("no room for a thread");
    }

    public int feed(int thread, int work)
            throws IndexOutOfBoundsException, IllegalArgumentException, IllegalStateException {
        Task fed = taskAt(thread);
        if (!isFrom(1, work, MOST_WORK_AT_ONCE)) {
            throw new IllegalArgumentException("a number out of range");
        }
        if (fed.left + work > MOST_WORK_LEFT) {
            throw new IllegalStateException("too much work");
        }
        fed.left += work;
        return fed.left;
    }

    public int move(int thread, int core) throws IndexOutOfBoundsException, UnsupportedOperationException {
        Task moved = taskAt(thread);
        coreAt(core);
        if (moved.core == core) {
            throw new UnsupportedOperationException("it is there");
        }
        int before = moved.core;
        moved.core = core;
        moved.coldTicks = COLD_TICKS;
        return before;
    }

    public char governor(int core, char kind, int speed)
            throws IndexOutOfBoundsException, IllegalArgumentException {
        Core governed = coreAt(core);
        if (kind != FIXED && kind != LADDER && kind != BY_WORK) {
            throw new IllegalArgumentException("no such governor");
        }
        if (kind == FIXED && !isFrom(0, speed, GREATEST_BIG)) {
            throw new IllegalArgumentException("the speed is out of range");
        }
        char before = governed.governor;
        governed.governor = kind;
        governed.fixedSpeed = speed;
        return before;
    }

    public int work(int thread) throws IndexOutOfBoundsException {
        return taskAt(thread).left;
    }

    public boolean isCold(int thread) throws IndexOutOfBoundsException {
        return taskAt(thread).coldTicks > 0;
    }

    // ---- time and speeds ----

    public int pass(int ticks) throws IllegalArgumentException, IllegalStateException {
        if (!isFrom(1, ticks, MOST_TICKS_AT_ONCE)) {
            throw new IllegalArgumentException("a number out of range");
        }
        if (this.ticks + ticks > MOST_TICKS) {
            throw new IllegalStateException("too many ticks");
        }
        for (int i = 0; i < ticks; i++) {
            oneTick();
        }
        return this.ticks;
    }

    public int speed(int core) throws IndexOutOfBoundsException {
        return coreAt(core).speed;
    }

    public int wanted(int core) throws IndexOutOfBoundsException {
        return coreAt(core).wanted;
    }

    public char clamp(int core) throws IndexOutOfBoundsException {
        return coreAt(core).clamp;
    }

    public char sleep(int core) throws IndexOutOfBoundsException {
        return coreAt(core).sleep;
    }

    public boolean isBusy(int core) throws IndexOutOfBoundsException {
        coreAt(core);
        return runningOn(core) != null;
    }

    public int need(int core, int speed) throws IndexOutOfBoundsException, IllegalArgumentException {
        Core asked = coreAt(core);
        if (!isFrom(0, speed, asked.greatestSpeed())) {
            throw new IllegalArgumentException("no speed of its kind");
        }
        return asked.voltsFor(speed);
    }

    public int volts(int rail) throws IndexOutOfBoundsException {
        return railAt(rail).millivolts;
    }

    // ---- heat ----

    public int heat(int core) throws IndexOutOfBoundsException {
        return (int) coreAt(core).body.heat.lowBits();
    }

    public int degrees(int core) throws IndexOutOfBoundsException {
        return (int) coreAt(core).body.degrees.lowBits();
    }

    public int caseDegrees() {
        return (int) cooling.box.degrees.lowBits();
    }

    public int sensor(int core) throws IndexOutOfBoundsException, NoSuchElementException {
        Core asked = coreAt(core);
        if (asked.sensorLost) {
            throw new NoSuchElementException("the sensor is lost");
        }
        return asked.sensorTells;
    }

    public boolean lose(int core, boolean is) throws IndexOutOfBoundsException {
        Core asked = coreAt(core);
        boolean before = asked.sensorLost;
        asked.sensorLost = is;
        return before;
    }

    public boolean isTripped(int core) throws IndexOutOfBoundsException {
        return coreAt(core).tripped;
    }

    public int fan() {
        return cooling.fanLevel;
    }

    public boolean killFan(boolean is) {
        boolean before = cooling.fanDead;
        cooling.fanDead = is;
        if (is) {
            cooling.fanLevel = 0;
        }
        return before;
    }

    public int heatUp(int core, int heat)
            throws IndexOutOfBoundsException, IllegalArgumentException, IllegalStateException {
        Core heated = coreAt(core);
        if (!isFrom(1, heat, MOST_HEAT_AT_ONCE)) {
            throw new IllegalArgumentException("a number out of range");
        }
        if (heated.body.heat.upTo(MOST_HEAT) + heat > MOST_HEAT) {
            throw new IllegalStateException("too much heat");
        }
        passing.become(heat);
        heated.body.gain(passing);
        heatFromOutside += heat;
        return (int) heated.body.degrees.lowBits();
    }

    // ---- power and requests ----

    public int wall(int gives) throws IllegalArgumentException {
        if (!isFrom(0, gives, MOST_FROM_WALL)) {
            throw new IllegalArgumentException("a number out of range");
        }
        int before = supply.wallGives;
        supply.wallGives = gives;
        return before;
    }

    public int battery() {
        return supply.battery;
    }

    public int purse() {
        return supply.purse;
    }

    public int taken() {
        return (int) supply.taken;
    }

    public int owed() {
        return (int) supply.owed;
    }

    public int request(int number, int speed) throws IllegalArgumentException, UnsupportedOperationException {
        if (!isFrom(1, number, MOST_NUMBER)) {
            requests.whyRefused = BAD_NUMBER;
            throw new IllegalArgumentException("a number out of range");
        }
        if (!isFrom(0, speed, GREATEST_BIG)) {
            requests.whyRefused = BAD_SPEED;
            throw new IllegalArgumentException("the speed is out of range");
        }
        if (number <= requests.greatestNumber) {
            requests.whyRefused = STALE;
            throw new UnsupportedOperationException("stale");
        }
        requests.take(number, speed);
        return requests.made;
    }

    public int holds() {
        return requests.heldNumber;
    }

    public char why() {
        return requests.whyRefused;
    }

    public boolean drop() {
        return requests.dropBoth();
    }

    // ---- age and sums ----

    public int age(int core) throws IndexOutOfBoundsException {
        return coreAt(core).inAge();
    }

    public boolean isRetired(int core) throws IndexOutOfBoundsException {
        return coreAt(core).isTooOld();
    }

    public int wear(int core, int wear)
            throws IndexOutOfBoundsException, IllegalArgumentException, IllegalStateException {
        Core worn = coreAt(core);
        if (!isFrom(1, wear, MOST_WEAR_AT_ONCE)) {
            throw new IllegalArgumentException("a number out of range");
        }
        if (worn.worn + wear > MOST_WEAR) {
            throw new IllegalStateException("too much wear");
        }
        worn.worn += wear;
        return worn.worn;
    }

    public long account(char kind) throws IllegalArgumentException {
        if (kind == 'w') {
            return supply.sumFromWall;
        }
        if (kind == 'b') {
            return supply.sumFromBattery;
        }
        if (kind == 'o') {
            return supply.sumOwed;
        }
        if (kind == 'h') {
            return heatFromOutside;
        }
        if (kind == 'a') {
            return cooling.givenToAir;
        }
        if (kind == 't') {
            return supply.sumTaken;
        }
        throw new IllegalArgumentException("no such account");
    }

    public long checksum() {
        long sum = 7;
        for (Core core : cores) {
            if (core != null) {
                sum = 31 * sum + core.speed;
                sum = 31 * sum + core.body.heat.lowBits();
            }
        }
        for (Task task : tasks) {
            if (task != null) {
                sum = 31 * sum + task.left;
            }
        }
        sum = 31 * sum + cooling.box.heat.lowBits();
        return 31 * sum + supply.battery;
    }

    public float busyShare() throws NoSuchElementException {
        int all = 0;
        int busy = 0;
        for (Core core : cores) {
            if (core != null) {
                all++;
                busy += runningOn(core.number) != null ? 1 : 0;
            }
        }
        if (all == 0) {
            throw new NoSuchElementException("no cores");
        }
        return (float) busy / (float) all;
    }

    public double meanDegrees() throws NoSuchElementException {
        int all = 0;
        passing.become(0);
        for (Core core : cores) {
            if (core != null) {
                all++;
                passing.add(core.body.degrees);
            }
        }
        if (all == 0) {
            throw new NoSuchElementException("no cores");
        }
        return passing.toDouble() / (double) all;
    }

    /** Compares the lowest 64 bits: sums that are equal stay so beyond a long. */
    public boolean isSound() {
        long inside = cooling.box.heat.lowBits();
        long atFirst = CASE_HEAT_AT_FIRST;
        for (Core core : cores) {
            if (core != null) {
                inside += core.body.heat.lowBits();
                atFirst += CORE_HEAT_AT_FIRST;
            }
        }
        boolean heatIsKept = inside + cooling.givenToAir == atFirst + supply.sumTaken + heatFromOutside;
        boolean powerIsKept =
                supply.sumTaken == supply.sumFromWall + supply.sumFromBattery + supply.sumOwed;
        return heatIsKept && powerIsKept && supply.battery >= 0 && supply.battery <= BATTERY_FULL;
    }

    // ---- looking things up ----

    private static boolean isFrom(int least, int number, int most) {
        return number >= least && number <= most;
    }

    private Rail railAt(int number) {
        Rail rail = number < 0 || number >= rails.length ? null : rails[number];
        if (rail == null) {
            throw new IndexOutOfBoundsException("no such rail");
        }
        return rail;
    }

    private Core coreAt(int number) {
        Core core = number < 0 || number >= cores.length ? null : cores[number];
        if (core == null) {
            throw new IndexOutOfBoundsException("no such core");
        }
        return core;
    }

    private Task taskAt(int number) {
        Task task = number < 0 || number >= tasks.length ? null : tasks[number];
        if (task == null) {
            throw new IndexOutOfBoundsException("no such thread");
        }
        return task;
    }

    private Task runningOn(int core) {
        for (Task task : tasks) {
            if (task != null && task.core == core && task.left > 0) {
                return task;
            }
        }
        return null;
    }

    private int threadsWithWorkOn(int core) {
        int count = 0;
        for (Task task : tasks) {
            if (task != null && task.core == core && task.left > 0) {
                count++;
            }
        }
        return count;
    }

    // ---- a tick, in the document's order ----

    private void oneTick() {
        ticks++;
        requests.beginToHold();
        beginCores();
        sleepAndWake();
        wishAndClamp();
        driveRails();
        letCoresRun();
        heatCores();
        flowToCase();
        cooling.giveToAir(passing);
        cooling.stepFan();
        passing.become(cooling.runFan());
        powerOfAll.add(passing);
        supply.give(powerOfAll);
    }

    private void beginCores() {
        boolean read = ticks % TICKS_OF_SENSOR == 0;
        for (Core core : cores) {
            if (core != null) {
                core.noteBusy(runningOn(core.number) != null);
                if (read) {
                    core.readSensor();
                }
                core.tripAndWear();
            }
        }
    }

    private void sleepAndWake() {
        int begun = 0;
        for (Core core : cores) {
            if (core == null) {
                continue;
            }
            if (core.sleep == WAKING) {
                goOnWaking(core);
            } else if (!core.busy) {
                core.countIdle();
            } else {
                core.idleTicks = 0;
                if (core.sleep != AWAKE && begun < MOST_BEGIN_TO_WAKE) {
                    core.beginToWake();
                    begun++;
                }
            }
        }
    }

    private void goOnWaking(Core core) {
        core.ticksToWake--;
        if (core.ticksToWake > 0) {
            return;
        }
        core.sleep = AWAKE;
        if (core.wasDeep) {
            chillThreadsOn(core.number);
        }
    }

    private void chillThreadsOn(int core) {
        for (Task task : tasks) {
            if (task != null && task.core == core) {
                task.coldTicks = COLD_TICKS;
            }
        }
    }

    private void wishAndClamp() {
        for (Core core : cores) {
            if (core != null) {
                core.wish(threadsWithWorkOn(core.number));
                clampOne(core);
            }
        }
    }

    /** Asks in the document's order, and only what tells less counts: so the first of equals gives the letter. */
    private void clampOne(Core core) {
        core.mayHave = core.wanted;
        core.clamp = NOTHING;
        if (core.isTooOld()) {
            core.limit(0, RETIRED);
        }
        if (core.tripped) {
            core.limit(0, TRIPPED);
        }
        if (supply.isInDebt) {
            core.limit(0, POWER_OWED);
        }
        if (core.sensorLost) {
            core.limit(CAREFUL_SPEED, NO_SENSOR);
        }
        if (supply.purse <= 0) {
            core.limit(CAREFUL_SPEED, PURSE_EMPTY);
        }
        if (requests.heldNumber > 0) {
            core.limit(requests.heldSpeed, REQUESTED);
        }
        if (core.sleep != AWAKE) {
            core.mayHave = 0;
        }
    }

    private void driveRails() {
        for (Rail rail : rails) {
            if (rail != null) {
                rail.target = LEAST_VOLTS;
            }
        }
        for (Core core : cores) {
            if (core != null) {
                core.rail.target = Math.max(core.rail.target, core.voltsFor(core.mayHave));
            }
        }
        for (Rail rail : rails) {
            if (rail != null) {
                rail.goTowardsTarget();
            }
        }
    }

    private void letCoresRun() {
        for (Core core : cores) {
            if (core != null) {
                core.setSpeed();
                Task task = runningOn(core.number);
                if (task != null && core.speed > 0) {
                    task.workAt(core.speed * core.workOfOneSpeed());
                }
            }
        }
    }

    private void heatCores() {
        powerOfAll.become(0);
        for (Core core : cores) {
            if (core != null) {
                int power = core.powerOfSpeed();
                core.tellLeak(passing);
                core.body.gain(passing);
                powerOfAll.add(passing);
                passing.become(power);
                core.body.gain(passing);
                powerOfAll.add(passing);
            }
        }
    }

    private void flowToCase() {
        for (Core core : cores) {
            if (core != null) {
                boolean isBack = core.body.degrees.isLess(cooling.box.degrees);
                Body from = isBack ? cooling.box : core.body;
                Body to = isBack ? core.body : cooling.box;
                passing.becomeSame(from.degrees);
                passing.takeAway(to.degrees);
                from.giveAway(passing);
                to.gain(passing);
            }
        }
    }

    /** The voltage that some cores share. */
    private static final class Rail {
        int millivolts = LEAST_VOLTS;
        int target = LEAST_VOLTS;

        void goTowardsTarget() {
            int most = millivolts + VOLTS_IN_A_TICK;
            int least = millivolts - VOLTS_IN_A_TICK;
            millivolts = Math.max(least, Math.min(most, target));
        }
    }

    /** A thread of the chip; not named Thread, as Java has one. */
    private static final class Task {
        final int memory;
        int core;
        int left;
        int coldTicks = 0;

        Task(int core, int work, int memory) {
            this.core = core;
            this.left = work;
            this.memory = memory;
        }

        /** Only called with a speed above 0: there alone a cold tick counts, and 1 is the least work. */
        void workAt(int pace) {
            int done = Math.max(1, pace * (10 - memory) / 10);
            if (coldTicks > 0) {
                done = done / 2;
                coldTicks--;
            }
            left -= Math.min(done, left);
        }
    }

    private static final class Core {
        final int number;
        final Rail rail;
        final boolean big;
        char governor = LADDER;
        int fixedSpeed = 0;
        int wanted = 0;
        int mayHave = 0;
        int speed = 0;
        char clamp = NOTHING;
        char sleep = AWAKE;
        int idleTicks = 0;
        int ticksToWake = 0;
        boolean wasDeep = false;
        boolean busy = false;
        boolean wasBusy = false;
        final Body body = new Body(CORE_HEAT_AT_FIRST, HEAT_OF_CORE_DEGREE);
        int sensorTells = AIR_DEGREES;
        boolean sensorLost = false;
        boolean tripped = false;
        int worn = 0;

        Core(int number, Rail rail, boolean big) {
            this.number = number;
            this.rail = rail;
            this.big = big;
        }

        int inAge() {
            return worn / WEAR_OF_AGE;
        }

        boolean isTooOld() {
            return inAge() > OLDEST;
        }

        int greatestSpeed() {
            return big ? GREATEST_BIG : GREATEST_SMALL;
        }

        int workOfOneSpeed() {
            return big ? 3 : 2;
        }

        int voltsFor(int someSpeed) {
            int whenHot = body.degrees.upTo(HOT) >= HOT ? VOLTS_WHEN_HOT : 0;
            return LEAST_VOLTS + VOLTS_FOR_EACH_SPEED * someSpeed + inAge() + whenHot;
        }

        void noteBusy(boolean now) {
            wasBusy = busy;
            busy = now;
        }

        void readSensor() {
            int degrees = (int) body.degrees.lowBits();
            sensorTells = degrees - (degrees & 1);
        }

        void tripAndWear() {
            int degrees = body.degrees.upTo(TRIPS_FROM);
            if (degrees >= TRIPS_FROM) {
                tripped = true;
            } else if (degrees < TRIPS_UNTIL) {
                tripped = false;
            }
            if (degrees >= WEARING) {
                worn++;
            }
        }

        void countIdle() {
            idleTicks++;
            if (idleTicks >= IDLE_TO_DEEP) {
                sleep = DEEP;
            } else if (idleTicks >= IDLE_TO_LIGHT && sleep == AWAKE) {
                sleep = LIGHT;
            }
        }

        void beginToWake() {
            wasDeep = sleep == DEEP;
            ticksToWake = wasDeep ? WAKE_FROM_DEEP : WAKE_FROM_LIGHT;
            sleep = WAKING;
        }

        void wish(int threadsWithWork) {
            int wish = fixedSpeed;
            if (governor == LADDER) {
                wish = wasBusy ? speed + 1 : speed - 1;
            } else if (governor == BY_WORK) {
                wish = SPEED_FOR_EACH_THREAD * threadsWithWork;
            }
            wanted = Math.max(0, Math.min(greatestSpeed(), wish));
        }

        void limit(int most, char letter) {
            if (most < mayHave) {
                mayHave = most;
                clamp = letter;
            }
        }

        void setSpeed() {
            speed = mayHave;
            while (speed > 0 && voltsFor(speed) > rail.millivolts) {
                speed--;
            }
        }

        int powerOfSpeed() {
            return speed * rail.millivolts / (busy ? 50 : 200);
        }

        /** Lets the amount become what this core leaks in the tick, by its degrees ahead of any gain. */
        void tellLeak(Amount leak) {
            if (sleep == DEEP) {
                leak.become(0);
                return;
            }
            leak.becomeProduct(body.degrees, rail.millivolts);
            leak.becomeQuotient(leak, LEAK_DIVISOR);
            if (sleep == LIGHT) {
                leak.becomeQuotient(leak, 2);
            }
        }
    }

    /** What holds heat, a core or the case, with its degrees, which follow each change of the heat. */
    private static final class Body {
        final int heatOfDegree;
        final Amount heat = new Amount();
        final Amount degrees = new Amount();

        Body(int heatAtFirst, int heatOfDegree) {
            this.heatOfDegree = heatOfDegree;
            heat.become(heatAtFirst);
            degrees.becomeQuotient(heat, heatOfDegree);
        }

        void gain(Amount more) {
            heat.add(more);
            degrees.becomeQuotient(heat, heatOfDegree);
        }

        void giveAway(Amount less) {
            heat.takeAway(less);
            degrees.becomeQuotient(heat, heatOfDegree);
        }
    }

    /** The case, the air and the fan. */
    private static final class Cooling {
        final Body box = new Body(CASE_HEAT_AT_FIRST, HEAT_OF_CASE_DEGREE);
        final Amount airDegrees = new Amount();
        long givenToAir = 0;
        int fanLevel = 0;
        boolean fanDead = false;

        Cooling() {
            airDegrees.become(AIR_DEGREES);
        }

        /** No core and no case is ever colder than the air, as each begins with its 20 degrees, so this is not below 0. */
        void giveToAir(Amount given) {
            given.becomeSame(box.degrees);
            given.takeAway(airDegrees);
            given.becomeProduct(given, fanLevel + 1);
            given.becomeQuotient(given, 2);
            box.giveAway(given);
            givenToAir += given.lowBits();
        }

        void stepFan() {
            if (fanDead) {
                return;
            }
            int degrees = box.degrees.upTo(HOT);
            if (fanLevel < FAN_GREATEST && degrees >= 40 + 10 * fanLevel) {
                fanLevel++;
            } else if (fanLevel > 0 && degrees < 25 + 10 * fanLevel) {
                fanLevel--;
            }
        }

        int runFan() {
            int power = FAN_POWER * fanLevel;
            givenToAir += power;
            return power;
        }
    }

    /** The wall, the battery and the purse; of what no long can hold, the sums keep the lowest 64 bits. */
    private static final class Supply {
        int wallGives = WALL_AT_FIRST;
        int battery = BATTERY_FULL;
        int purse = PURSE_FULL;
        long taken = 0;
        long owed = 0;
        boolean isInDebt = false;
        long sumFromWall = 0;
        long sumFromBattery = 0;
        long sumOwed = 0;
        long sumTaken = 0;

        /** What is far above all that wall, battery and purse can give is as good as ABOVE_ALL_SUPPLY to them. */
        void give(Amount power) {
            int bounded = power.upTo(ABOVE_ALL_SUPPLY);
            int fromWall = Math.min(bounded, wallGives);
            int fromBattery = Math.min(bounded - fromWall, battery);
            int room = BATTERY_FULL - battery;
            int charge = Math.min(room, Math.min(CHARGE_IN_A_TICK, wallGives - fromWall));
            taken = power.lowBits();
            owed = taken - fromWall - fromBattery;
            isInDebt = bounded > fromWall + fromBattery;
            battery += charge - fromBattery;
            sumFromWall += fromWall + charge;
            sumFromBattery += fromBattery - charge;
            sumOwed += owed;
            sumTaken += taken;
            purse = Math.max(0, Math.min(PURSE_FULL, purse + PURSE_GETS - bounded));
        }
    }

    /** A held request, one that waits for the next tick, and what was refused. */
    private static final class Requests {
        int made = 0;
        int greatestNumber = 0;
        int heldNumber = 0;
        int heldSpeed = 0;
        int waitingNumber = 0;
        int waitingSpeed = 0;
        char whyRefused = NOTHING;

        void take(int number, int speed) {
            made++;
            greatestNumber = number;
            waitingNumber = number;
            waitingSpeed = speed;
        }

        void beginToHold() {
            if (waitingNumber > 0) {
                heldNumber = waitingNumber;
                heldSpeed = waitingSpeed;
                waitingNumber = 0;
            }
        }

        boolean dropBoth() {
            boolean any = heldNumber > 0 || waitingNumber > 0;
            heldNumber = 0;
            waitingNumber = 0;
            return any;
        }
    }

    /**
     * A whole number, 0 or more, beyond what a long holds: an aged chip with a dead fan heats itself, as its leak
     * follows its degrees. In a tick all heat grows to at most 1.03 times itself and 3000 more, as no rail comes to
     * 3000 millivolts; so 9999 ticks, whatever comes from outside, leave it below 2 to the 460.
     */
    private static final class Amount {
        // the lowest part first; those from used on are 0, and only putOnTop lets used grow, up to the length
        final long[] parts = new long[AMOUNT_PARTS];
        int used = 0;

        /** The number is below 2 to the 31, and not below 0. */
        void become(int number) {
            int most = reach(this);
            for (int i = 0; i < most; i++) {
                parts[i] = 0;
            }
            parts[0] = number;
            used = 1;
            dropZeros();
        }

        void becomeSame(Amount other) {
            int most = reach(other);
            for (int i = 0; i < most; i++) {
                parts[i] = other.parts[i];
            }
            used = most;
            dropZeros();
        }

        void becomeProduct(Amount other, int factor) {
            int most = reach(other);
            long carry = 0;
            for (int i = 0; i < most; i++) {
                carry += other.parts[i] * factor;
                parts[i] = carry & PART_MASK;
                carry >>>= PART_BITS;
            }
            used = most;
            putOnTop(carry);
        }

        /** The quotient is cut. */
        void becomeQuotient(Amount other, int divisor) {
            if (divisor < 1) {
                return;
            }
            used = reach(other);
            long rest = 0;
            for (int i = used - 1; i >= 0; i--) {
                rest = (rest << PART_BITS) + other.parts[i];
                parts[i] = rest / divisor;
                rest %= divisor;
            }
            dropZeros();
        }

        void add(Amount more) {
            int most = reach(more);
            long carry = 0;
            for (int i = 0; i < most; i++) {
                carry += parts[i] + more.parts[i];
                parts[i] = carry & PART_MASK;
                carry >>>= PART_BITS;
            }
            used = most;
            putOnTop(carry);
        }

        /** Only called with an amount that is no greater than this one. */
        void takeAway(Amount less) {
            int most = reach(less);
            long carry = 0;
            for (int i = 0; i < most; i++) {
                carry += parts[i] - less.parts[i];
                parts[i] = carry & PART_MASK;
                carry >>= PART_BITS;
            }
            dropZeros();
        }

        boolean isLess(Amount other) {
            for (int i = reach(other) - 1; i >= 0; i--) {
                if (parts[i] != other.parts[i]) {
                    return parts[i] < other.parts[i];
                }
            }
            return false;
        }

        /** This number, or most if that is less. */
        int upTo(int most) {
            return used > 1 || parts[0] > most ? most : (int) parts[0];
        }

        long lowBits() {
            return parts[0] + (parts[1] << PART_BITS);
        }

        /** Rounds once, in the cast: of all bits behind the first 62 it matters only whether there is a 1. */
        double toDouble() {
            long first = 0;
            double scale = 1.0;
            for (int i = reach(this) * PART_BITS - 1; i >= 0; i--) {
                long bit = (parts[i / PART_BITS] >> (i % PART_BITS)) & 1;
                if (first < ENOUGH_BITS) {
                    first = 2 * first + bit;
                } else {
                    first |= bit;
                    scale *= 2.0;
                }
            }
            return (double) first * scale;
        }

        /** How many parts a loop over both has; asks the length too, so that no index can pass it. */
        private int reach(Amount other) {
            return Math.min(parts.length, Math.max(used, other.used));
        }

        private void putOnTop(long part) {
            if (part > 0 && used < parts.length) {
                parts[used] = part;
                used++;
            }
            dropZeros();
        }

        private void dropZeros() {
            while (used > 0 && parts[used - 1] == 0) {
                used--;
            }
        }
    }
}
