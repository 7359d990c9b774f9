/** Promises 31 to 34: requests, which holds, why one was refused, and drops. */
public final class RequestsTest {
    private static final Check check = new Check("RequestsTest");
    private static final Class<IllegalArgumentException> ARGUMENT = IllegalArgumentException.class;
    private static final Class<UnsupportedOperationException> STALE = UnsupportedOperationException.class;

    public static void main(String[] args) {
        numbersAndSpeedsHaveRanges();
        greaterNumbersOnly();
        refusedOnesAreNotAhead();
        theyHoldFromTheNextTickOn();
        whyTellsTheLastRefusal();
        dropsLeaveNumbersBehind();
        theLeastNumber();
        check.finish();
    }

    private static void numbersAndSpeedsHaveRanges() {
        Wattgovern x = new Wattgovern();
        check.fails("number 0", ARGUMENT, () -> x.request(0, 1));
        check.fails("number -1", ARGUMENT, () -> x.request(-1, 1));
        check.fails("number 10000", ARGUMENT, () -> x.request(10000, 1));
        check.fails("speed -1", ARGUMENT, () -> x.request(1, -1));
        check.fails("speed 8", ARGUMENT, () -> x.request(1, 8));
        check.same("the least", 1, x.request(1, 0));
        check.same("the greatest", 2, x.request(9999, 7));
    }

    private static void greaterNumbersOnly() {
        Wattgovern x = new Wattgovern();
        check.same("5", 1, x.request(5, 3));
        check.fails("5 again", STALE, () -> x.request(5, 3));
        check.fails("4", STALE, () -> x.request(4, 3));
        check.same("6, refused ones not counted", 2, x.request(6, 1));
        x.pass(1);
        check.fails("6 again, as it holds", STALE, () -> x.request(6, 0));
        check.same("6 holds", 6, x.holds());
    }

    private static void refusedOnesAreNotAhead() {
        Wattgovern x = new Wattgovern();
        check.fails("100 with a wrong speed", ARGUMENT, () -> x.request(100, 8));
        check.same("50 is not stale", 1, x.request(50, 1));
        check.fails("10000", ARGUMENT, () -> x.request(10000, 1));
        check.same("51 is not stale", 2, x.request(51, 1));
    }

    private static void theyHoldFromTheNextTickOn() {
        Wattgovern x = new Wattgovern();
        x.core(0, 'b');
        x.thread(0, 9999, 0);
        x.governor(0, 'f', 7);
        check.same("none", 0, x.holds());
        x.request(3, 5);
        check.same("not yet", 0, x.holds());
        x.pass(1);
        check.same("now", 3, x.holds());
        check.same("and clamps", 'q', x.clamp(0));
        x.request(4, 6);
        x.request(9, 7);
        check.same("3 holds still", 3, x.holds());
        x.pass(1);
        check.same("9 in place of it", 9, x.holds());
        check.same("and of 4", '-', x.clamp(0));
        x.pass(100);
        check.same("it holds on", 9, x.holds());
    }

    private static void whyTellsTheLastRefusal() {
        Wattgovern x = new Wattgovern();
        check.same("none", '-', x.why());
        x.request(10, 1);
        check.same("none was refused", '-', x.why());
        check.fails("number and speed", ARGUMENT, () -> x.request(0, 9));
        check.same("the number first", 'n', x.why());
        check.fails("stale and speed", ARGUMENT, () -> x.request(10, 9));
        check.same("the speed ahead of stale", 'v', x.why());
        check.fails("stale", STALE, () -> x.request(10, 0));
        check.same("stale", 's', x.why());
        x.request(11, 1);
        check.same("a good one changes nothing", 's', x.why());
        x.pass(1);
        x.drop();
        check.same("nor do ticks and drops", 's', x.why());
        check.fails("number 10000", ARGUMENT, () -> x.request(10000, 1));
        check.same("the last one", 'n', x.why());
        check.fails("other exceptions", ARGUMENT, () -> x.pass(0));
        check.same("do not tell why", 'n', x.why());
    }

    private static void dropsLeaveNumbersBehind() {
        Wattgovern x = new Wattgovern();
        x.core(0, 'b');
        x.thread(0, 9999, 0);
        x.governor(0, 'f', 7);
        check.same("nothing to drop", false, x.drop());
        x.request(5, 1);
        check.same("one that does not hold yet", true, x.drop());
        check.same("only once", false, x.drop());
        x.pass(1);
        check.same("it never holds", 0, x.holds());
        check.fails("5 is stale all the same", STALE, () -> x.request(5, 1));
        check.same("the count goes on", 2, x.request(6, 1));
        x.pass(1);
        check.same("clamped", 'q', x.clamp(0));
        check.same("one that holds", true, x.drop());
        check.same("none holds", 0, x.holds());
        x.pass(1);
        check.same("no clamp", '-', x.clamp(0));
        x.request(7, 1);
        x.pass(1);
        x.request(8, 2);
        check.same("both at once", true, x.drop());
        check.same("nothing left", false, x.drop());
        x.pass(1);
        check.same("neither holds", 0, x.holds());
    }

    private static void theLeastNumber() {
        Wattgovern x = new Wattgovern();
        x.core(0, 'b');
        x.thread(0, 9999, 0);
        x.governor(0, 'f', 7);
        x.request(1, 0);
        check.same("1 waits, and is dropped", true, x.drop());
        Wattgovern y = new Wattgovern();
        y.core(0, 'b');
        y.thread(0, 9999, 0);
        y.governor(0, 'f', 7);
        y.request(1, 0);
        y.pass(1);
        check.same("1 holds", 1, y.holds());
        check.same("and clamps", 'q', y.clamp(0));
        check.same("and is dropped", true, y.drop());
    }
}
