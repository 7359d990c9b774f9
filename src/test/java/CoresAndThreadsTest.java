import java.util.NoSuchElementException;

/** Promises 1 to 8: a new object, cores, threads, their work, moves and governors. */
public final class CoresAndThreadsTest {
    private static final Check check = new Check("CoresAndThreadsTest");
    private static final Class<IndexOutOfBoundsException> INDEX = IndexOutOfBoundsException.class;
    private static final Class<IllegalArgumentException> ARGUMENT = IllegalArgumentException.class;
    private static final Class<IllegalStateException> STATE = IllegalStateException.class;

    public static void main(String[] args) {
        aNewObject();
        coresAreAdded();
        aNewCore();
        threadsAreAdded();
        threadsAreFed();
        threadsMove();
        governorsAreSet();
        workGoesByKindAndMemory();
        theLowestThreadRuns();
        aMovedThreadIsCold();
        aColdThreadDoesHalf();
        aColdThreadMayDoNothing();
        coldTicksNeedASpeedAndARun();
        noSuchThread();
        check.finish();
    }

    private static void aNewObject() {
        Wattgovern x = new Wattgovern();
        for (int rail = 0; rail < 3; rail++) {
            check.same("new volts", 500, x.volts(rail));
        }
        check.same("new caseDegrees", 20, x.caseDegrees());
        check.same("new fan", 0, x.fan());
        check.same("new battery", 5000, x.battery());
        check.same("new purse", 600, x.purse());
        check.same("new taken", 0, x.taken());
        check.same("new owed", 0, x.owed());
        check.same("new holds", 0, x.holds());
        check.same("new why", '-', x.why());
        check.same("new drop", false, x.drop());
        check.same("new killFan", false, x.killFan(false));
        check.same("new wall", 200, x.wall(200));
        for (char kind : "wbohat".toCharArray()) {
            check.same("new account " + kind, 0L, x.account(kind));
        }
        check.same("new checksum", (7L * 31 + 4000) * 31 + 5000, x.checksum());
        check.same("new isSound", true, x.isSound());
        check.fails("new busyShare", NoSuchElementException.class, x::busyShare);
        check.fails("new speed(0)", INDEX, () -> x.speed(0));
        check.fails("new work(0)", INDEX, () -> x.work(0));
        check.same("first tick", 1, x.pass(1));
        check.same("empty chip takes nothing", 0, x.taken());
    }

    private static void coresAreAdded() {
        Wattgovern x = new Wattgovern();
        check.fails("core(-1, 's')", INDEX, () -> x.core(-1, 's'));
        check.fails("core(3, 'x') by the rail first", INDEX, () -> x.core(3, 'x'));
        check.fails("core(0, 'x')", ARGUMENT, () -> x.core(0, 'x'));
        check.fails("core(0, 'S')", ARGUMENT, () -> x.core(0, 'S'));
        check.fails("core(0, 'B')", ARGUMENT, () -> x.core(0, 'B'));
        for (int i = 0; i < 6; i++) {
            check.same("core number", i, x.core(i % 3, i % 2 == 0 ? 's' : 'b'));
        }
        String before = View.of(x);
        check.fails("a 7th core", STATE, () -> x.core(0, 's'));
        check.fails("a 7th core of no kind", ARGUMENT, () -> x.core(0, 'c'));
        check.fails("a 7th core on no rail", INDEX, () -> x.core(3, 'c'));
        check.same("refused cores change nothing", before, View.of(x));
        check.fails("speed(6)", INDEX, () -> x.speed(6));
    }

    private static void aNewCore() {
        Wattgovern x = new Wattgovern();
        x.pass(7);
        x.core(2, 'b');
        check.same("speed", 0, x.speed(0));
        check.same("wanted", 0, x.wanted(0));
        check.same("clamp", '-', x.clamp(0));
        check.same("sleep", 'a', x.sleep(0));
        check.same("isBusy", false, x.isBusy(0));
        check.same("heat", 400, x.heat(0));
        check.same("degrees", 20, x.degrees(0));
        check.same("sensor", 20, x.sensor(0));
        check.same("isTripped", false, x.isTripped(0));
        check.same("age", 0, x.age(0));
        check.same("isRetired", false, x.isRetired(0));
        check.same("lose", false, x.lose(0, false));
        check.same("governor", 'l', x.governor(0, 'l', 0));
        check.same("isSound", true, x.isSound());
    }

    private static void threadsAreAdded() {
        Wattgovern x = new Wattgovern();
        x.core(0, 's');
        check.fails("thread(1, 1, 0)", INDEX, () -> x.thread(1, 1, 0));
        check.fails("thread(-1, 0, 10)", INDEX, () -> x.thread(-1, 0, 10));
        check.fails("work 0", ARGUMENT, () -> x.thread(0, 0, 0));
        check.fails("work 100000", ARGUMENT, () -> x.thread(0, 100000, 0));
        check.fails("memory -1", ARGUMENT, () -> x.thread(0, 1, -1));
        check.fails("memory 10", ARGUMENT, () -> x.thread(0, 1, 10));
        check.same("thread(0, 1, 0)", 0, x.thread(0, 1, 0));
        check.same("thread(0, 99999, 9)", 1, x.thread(0, 99999, 9));
        check.same("a thread makes busy", true, x.isBusy(0));
        check.same("work(0)", 1, x.work(0));
        check.same("work(1)", 99999, x.work(1));
        check.same("isCold(0)", false, x.isCold(0));
        for (int i = 2; i < 8; i++) {
            check.same("thread number", i, x.thread(0, 5, 5));
        }
        String before = View.of(x);
        check.fails("a 9th thread", STATE, () -> x.thread(0, 1, 0));
        check.fails("a 9th thread without work", ARGUMENT, () -> x.thread(0, 0, 0));
        check.fails("a 9th thread on no core", INDEX, () -> x.thread(6, 0, 0));
        check.same("refused threads change nothing", before, View.of(x));
    }

    private static void threadsAreFed() {
        Wattgovern x = new Wattgovern();
        x.core(0, 's');
        x.thread(0, 99999, 0);
        check.fails("feed(1, 1)", INDEX, () -> x.feed(1, 0));
        check.fails("feed(-1, 1)", INDEX, () -> x.feed(-1, 1));
        check.fails("feed(0, 0)", ARGUMENT, () -> x.feed(0, 0));
        check.fails("feed(0, 100000)", ARGUMENT, () -> x.feed(0, 100000));
        for (int i = 2; i <= 10; i++) {
            check.same("feed", 99999 * i, x.feed(0, 99999));
        }
        check.fails("feed above 999999", STATE, () -> x.feed(0, 10));
        check.same("work after a refused feed", 999990, x.work(0));
        check.same("feed to 999999", 999999, x.feed(0, 9));
        check.fails("feed above 999999 by 1", STATE, () -> x.feed(0, 1));
        check.fails("feed out of range first", ARGUMENT, () -> x.feed(0, 100000));
    }

    private static void threadsMove() {
        Wattgovern x = new Wattgovern();
        x.core(0, 's');
        x.core(0, 'b');
        x.thread(0, 10, 0);
        check.fails("move(1, 1)", INDEX, () -> x.move(1, 1));
        check.fails("move(0, 2)", INDEX, () -> x.move(0, 2));
        check.fails("move(0, -1)", INDEX, () -> x.move(0, -1));
        check.fails("move to where it is", UnsupportedOperationException.class, () -> x.move(0, 0));
        check.same("not cold by refused moves", false, x.isCold(0));
        check.same("move(0, 1)", 0, x.move(0, 1));
        check.same("cold behind a move", true, x.isCold(0));
        check.same("isBusy(0)", false, x.isBusy(0));
        check.same("isBusy(1)", true, x.isBusy(1));
        check.same("move back", 1, x.move(0, 0));
    }

    private static void governorsAreSet() {
        Wattgovern x = new Wattgovern();
        x.core(0, 's');
        check.fails("governor(1, 'x', 9)", INDEX, () -> x.governor(1, 'x', 9));
        check.fails("governor(-1, 'f', 0)", INDEX, () -> x.governor(-1, 'f', 0));
        check.fails("governor 'x'", ARGUMENT, () -> x.governor(0, 'x', 0));
        check.fails("governor 'F'", ARGUMENT, () -> x.governor(0, 'F', 0));
        check.fails("speed -1", ARGUMENT, () -> x.governor(0, 'f', -1));
        check.fails("speed 8", ARGUMENT, () -> x.governor(0, 'f', 8));
        check.same("before 'f'", 'l', x.governor(0, 'f', 7));
        x.pass(1);
        check.same("a small core wants 4 of 7", 4, x.wanted(0));
        check.same("before 'w'", 'f', x.governor(0, 'w', -5));
        check.same("before 'l'", 'w', x.governor(0, 'l', 1000));
        check.same("before 'f' again", 'l', x.governor(0, 'f', 0));
        x.pass(1);
        check.same("fixed 0", 0, x.wanted(0));
        x.governor(0, 'f', 3);
        check.fails("a refused governor", ARGUMENT, () -> x.governor(0, 'f', 8));
        x.pass(1);
        check.same("the refused governor left 3", 3, x.wanted(0));
    }

    /** A busy core of a fixed speed that has its voltage: how much work goes in the next tick. */
    private static int workInATick(char kind, int speed, int memory) {
        Wattgovern x = new Wattgovern();
        x.core(0, kind);
        x.thread(0, 9999, memory);
        x.governor(0, 'f', speed);
        x.pass(25);
        check.same("speed " + speed + " of " + kind, speed, x.speed(0));
        int before = x.work(0);
        x.pass(1);
        return before - x.work(0);
    }

    private static void workGoesByKindAndMemory() {
        check.same("small 4, memory 0", 8, workInATick('s', 4, 0));
        check.same("small 3, memory 5", 3, workInATick('s', 3, 5));
        check.same("small 3, memory 4", 3, workInATick('s', 3, 4));
        check.same("small 4, memory 9: at least 1", 1, workInATick('s', 4, 9));
        check.same("small 1, memory 0", 2, workInATick('s', 1, 0));
        check.same("big 1, memory 0", 3, workInATick('b', 1, 0));
        check.same("big 1, memory 7: at least 1", 1, workInATick('b', 1, 7));
        check.same("big 3, memory 3", 6, workInATick('b', 3, 3));
        check.same("big 4, memory 5", 6, workInATick('b', 4, 5));
        check.same("speed 0 does nothing", 0, workInATick('b', 0, 0));
    }

    private static void theLowestThreadRuns() {
        Wattgovern x = new Wattgovern();
        x.core(0, 's');
        x.thread(0, 3, 0);
        x.thread(0, 10, 0);
        x.governor(0, 'f', 1);
        x.pass(3);
        check.same("thread 0 ran", 1, x.work(0));
        check.same("thread 1 waited", 10, x.work(1));
        x.pass(1);
        check.same("the last piece, not below 0", 0, x.work(0));
        check.same("thread 1 begins in the next tick only", 10, x.work(1));
        x.pass(1);
        check.same("thread 1 ran", 8, x.work(1));
        x.feed(0, 2);
        x.pass(1);
        check.same("thread 0 is first again", 0, x.work(0));
        check.same("thread 1 waited again", 8, x.work(1));
    }

    private static void aMovedThreadIsCold() {
        Wattgovern x = new Wattgovern();
        x.core(0, 'b');
        x.core(1, 'b');
        x.thread(0, 1000, 0);
        x.thread(1, 1000, 0);
        x.governor(0, 'f', 1);
        x.pass(5);
        check.same("thread 0 has 3 ticks behind it", 991, x.work(0));
        x.move(0, 1);
        x.move(0, 0);
        int[] due = {990, 989, 988, 987, 986, 983};
        for (int i = 0; i < due.length; i++) {
            check.same("cold ahead of tick " + i, i < 5, x.isCold(0));
            x.pass(1);
            check.same("work by cold tick " + i, due[i], x.work(0));
        }
        check.same("the other was never cold", false, x.isCold(1));
        x.move(0, 1);
        x.move(0, 0);
        x.pass(3);
        x.move(0, 1);
        x.move(0, 0);
        x.pass(4);
        check.same("a move counts 5 anew", true, x.isCold(0));
        x.pass(1);
        check.same("warm behind 5", false, x.isCold(0));
    }

    private static void aColdThreadDoesHalf() {
        Wattgovern x = new Wattgovern();
        x.core(0, 'b');
        x.core(1, 'b');
        x.thread(0, 1000, 1);
        x.governor(0, 'f', 3);
        x.pass(15);
        check.same("speed", 3, x.speed(0));
        x.move(0, 1);
        x.move(0, 0);
        int before = x.work(0);
        x.pass(1);
        check.same("half of 8", before - 4, x.work(0));
    }

    private static void aColdThreadMayDoNothing() {
        Wattgovern x = new Wattgovern();
        x.core(0, 's');
        x.core(1, 's');
        x.thread(1, 50, 9);
        x.thread(0, 50, 0);
        x.governor(0, 'f', 2);
        x.pass(10);
        x.move(1, 1);
        x.move(0, 0);
        int before = x.work(0);
        x.pass(5);
        check.same("half of 1, cut", before, x.work(0));
        check.same("warm all the same", false, x.isCold(0));
        x.pass(1);
        check.same("1 when warm", before - 1, x.work(0));
    }

    private static void coldTicksNeedASpeedAndARun() {
        Wattgovern x = new Wattgovern();
        x.core(0, 'b');
        x.core(1, 'b');
        x.thread(0, 500, 0);
        x.thread(1, 500, 0);
        x.governor(0, 'f', 1);
        x.governor(1, 'f', 0);
        x.pass(5);
        x.move(0, 1);
        x.pass(20);
        check.same("no speed, so still cold", true, x.isCold(0));
        check.same("no work with speed 0", 491, x.work(0));
        x.move(0, 0);
        x.move(1, 0);
        x.pass(20);
        check.same("thread 0 has run", false, x.isCold(0));
        check.same("thread 1 waited, so still cold", true, x.isCold(1));
        check.same("thread 1 did nothing", 500, x.work(1));
    }

    private static void noSuchThread() {
        Wattgovern x = new Wattgovern();
        x.core(0, 's');
        x.thread(0, 1, 0);
        for (int thread : new int[] {-1, 1, 7, 8, Integer.MIN_VALUE, Integer.MAX_VALUE}) {
            check.fails("work(" + thread + ")", INDEX, () -> x.work(thread));
            check.fails("isCold(" + thread + ")", INDEX, () -> x.isCold(thread));
        }
    }
}
