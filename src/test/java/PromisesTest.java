import java.util.NoSuchElementException;

/** Each sentence of the promises 1 to 42 has its test here, at the edges that it names and one beyond them. */
public final class PromisesTest {
    private static final Check check = new Check("PromisesTest");
    private static final Doc doc = new Doc(check);
    private static final Class<IndexOutOfBoundsException> INDEX = IndexOutOfBoundsException.class;
    private static final Class<IllegalArgumentException> ARGUMENT = IllegalArgumentException.class;
    private static final Class<IllegalStateException> STATE = IllegalStateException.class;
    private static final Class<UnsupportedOperationException> UNSUPPORTED = UnsupportedOperationException.class;
    private static final Class<NoSuchElementException> ELEMENT = NoSuchElementException.class;
    private static final String NO_CORE = "Throws `IndexOutOfBoundsException` if there is no such core";
    private static final String NO_THREAD = "Throws `IndexOutOfBoundsException` if there is no such thread";
    private static final String NO_RAIL = "Throws `IndexOutOfBoundsException` if there is no such rail";
    private static final String OUT_OF_RANGE = "Throws `IllegalArgumentException` if a number is out of range";
    private static final String NUMBER_OF_CORE = "- `core`: the number of the core";
    private static final String NUMBER_OF_THREAD = "- `thread`: the number of the thread";
    private static final String TRUE_IF_SO = "Returns true if so.";

    private static int promise = 0;

    public static void main(String[] args) {
        p1();
        p2();
        p3();
        p4();
        p5();
        p6();
        p7();
        p8();
        p9();
        p10();
        p11();
        p12();
        p13();
        p14();
        p15();
        p16();
        p17();
        p18();
        p19();
        p20();
        p21();
        p22();
        p23();
        p24();
        p25();
        p26();
        p27();
        p28();
        p29();
        p30();
        p31();
        p32();
        p33();
        p34();
        p35();
        p36();
        p37();
        p38();
        p39();
        p40();
        p41();
        p42();
        for (int i = 1; i <= 42; i++) {
            doc.allTested("Promise " + i);
        }
        check.finish();
    }

    private static void test(String sentence, Doc.Test test) {
        doc.test("Promise " + promise, sentence, test);
    }

    private static Both none() {
        return new Both(check, "promise " + promise);
    }

    /** Core 0 big on rail 0, core 1 small on rail 1. */
    private static Both two() {
        Both b = none();
        b.is(0, "core", 0, 'b');
        b.is(1, "core", 1, 's');
        return b;
    }

    /** Two cores, each with a thread of much work. */
    private static Both busy() {
        Both b = two();
        b.is(0, "thread", 0, 99999, 0);
        b.is(1, "thread", 1, 99999, 9);
        return b;
    }

    private static Object[] with(int place, Object value, Object... given) {
        Object[] all = given.clone();
        all[place] = value;
        return all;
    }

    /** What comes behind the number is wrong too, where a call takes more. */
    private static void noSuchCore(String method, Object... rest) {
        Object[] given = new Object[rest.length + 1];
        System.arraycopy(rest, 0, given, 1, rest.length);
        none().refuses(INDEX, method, with(0, 0, given));
        Both b = busy();
        for (int core : new int[] {-1, 2, 5, 6, 7, 8, Integer.MIN_VALUE, Integer.MAX_VALUE}) {
            b.refuses(INDEX, method, with(0, core, given));
        }
        Both full = none();
        for (int i = 0; i < 6; i++) {
            full.is(i, "core", 0, 's');
        }
        full.refuses(INDEX, method, with(0, 6, given));
    }

    private static void noSuchThread(String method, Object... rest) {
        Object[] given = new Object[rest.length + 1];
        System.arraycopy(rest, 0, given, 1, rest.length);
        none().refuses(INDEX, method, with(0, 0, given));
        Both b = busy();
        for (int thread : new int[] {-1, 2, 7, 8, Integer.MIN_VALUE, Integer.MAX_VALUE}) {
            b.refuses(INDEX, method, with(0, thread, given));
        }
        Both full = two();
        for (int i = 0; i < 8; i++) {
            full.is(i, "thread", 0, 5, 5);
        }
        full.refuses(INDEX, method, with(0, 8, given));
    }

    private static void outOfRange(Both b, String method, int place, int least, int most, Object... given) {
        for (int number : new int[] {least - 1, most + 1, Integer.MIN_VALUE, Integer.MAX_VALUE}) {
            b.refuses(ARGUMENT, method, with(place, number, given));
        }
    }

    private static void p1() {
        promise = 1;
        test("Creates a chip without cores and threads, ahead of its first tick.", () -> {
            Both b = none();
            b.refuses(INDEX, "speed", 0);
            b.refuses(INDEX, "work", 0);
            b.refuses(ELEMENT, "busyShare");
            b.is(1, "pass", 1);
            b.is(0, "taken");
            b.is(20, "caseDegrees");
            b.is(0L, "account", 'a');
            b.is(true, "isSound");
        });
    }

    private static void p2() {
        promise = 2;
        test("Adds a core, awake.", () -> {
            Both b = two();
            b.is('a', "sleep", 0);
            b.is(400, "heat", 1);
        });
        test("- `rail`: the rail, 0 to 2", () -> {
            Both b = none();
            b.is(0, "core", 0, 's');
            b.is(1, "core", 2, 'b');
        });
        test("- `kind`: 's' or 'b'", () -> {
            Both b = two();
            b.is(920, "need", 0, 7);
            b.is(740, "need", 1, 4);
            b.refuses(ARGUMENT, "need", 1, 5);
        });
        test("Returns its number.", () -> {
            Both b = none();
            for (int i = 0; i < 6; i++) {
                b.is(i, "core", i % 3, i < 3 ? 's' : 'b');
            }
        });
        test(NO_RAIL, () -> {
            Both b = none();
            for (int rail : new int[] {-1, 3, 4, Integer.MIN_VALUE, Integer.MAX_VALUE}) {
                b.refuses(INDEX, "core", rail, 's');
                b.refuses(INDEX, "core", rail, 'x');
            }
            b.is(0, "core", 0, 's');
        });
        test("Throws `IllegalArgumentException` if there is no such kind", () -> {
            Both b = none();
            for (char kind : new char[] {'a', 'c', 'r', 't', 'S', 'B', ' ', 0, 65535}) {
                b.refuses(ARGUMENT, "core", 0, kind);
            }
            b.is(0, "core", 0, 's');
        });
        test("Throws `IllegalStateException` if there are 6", () -> {
            Both b = none();
            for (int i = 0; i < 6; i++) {
                b.is(i, "core", 0, 's');
            }
            b.refuses(STATE, "core", 0, 's');
            b.refuses(STATE, "core", 2, 'b');
            b.refuses(ARGUMENT, "core", 0, 'x');
            b.refuses(INDEX, "core", 3, 'x');
        });
    }

    private static void p3() {
        promise = 3;
        test("Adds a thread.", () -> {
            Both b = two();
            b.is(false, "isBusy", 1);
            b.is(0, "thread", 1, 7, 3);
            b.is(true, "isBusy", 1);
            b.is(7, "work", 0);
            b.is(false, "isCold", 0);
        });
        test(NUMBER_OF_CORE, () -> {
            Both b = none();
            for (int i = 0; i < 6; i++) {
                b.is(i, "core", 0, 's');
            }
            b.is(0, "thread", 0, 1, 0);
            b.is(1, "thread", 5, 1, 0);
            b.is(true, "isBusy", 5);
        });
        test("- `work`: the work, 1 to 99999", () -> {
            Both b = two();
            b.is(0, "thread", 0, 1, 0);
            b.is(1, "thread", 0, 99999, 0);
            b.is(1, "work", 0);
            b.is(99999, "work", 1);
        });
        test("- `memory`: the memory", () -> {
            Both b = two();
            b.is(0, "thread", 0, 10, 0);
            b.is(1, "thread", 0, 10, 9);
        });
        test("Returns its number.", () -> {
            Both b = two();
            for (int i = 0; i < 8; i++) {
                b.is(i, "thread", i % 2, 1 + i, i);
            }
        });
        test(NO_CORE, () -> {
            noSuchCore("thread", 1, 0);
            noSuchCore("thread", 0, 10);
        });
        test(OUT_OF_RANGE, () -> {
            Both b = two();
            outOfRange(b, "thread", 1, 1, 99999, 0, 1, 0);
            outOfRange(b, "thread", 2, 0, 9, 0, 1, 0);
            b.is(0, "thread", 0, 1, 0);
        });
        test("Throws `IllegalStateException` if there are 8", () -> {
            Both b = two();
            for (int i = 0; i < 8; i++) {
                b.is(i, "thread", 0, 1, 0);
            }
            b.refuses(STATE, "thread", 0, 1, 0);
            b.refuses(ARGUMENT, "thread", 0, 0, 0);
            b.refuses(ARGUMENT, "thread", 0, 1, 10);
            b.refuses(INDEX, "thread", 2, 0, 0);
            b.call("governor", 0, 'f', 1);
            b.pass(40);
            b.is(0, "work", 7);
            b.refuses(STATE, "thread", 0, 1, 0);
        });
    }

    private static void p4() {
        promise = 4;
        test("Gives a thread more work.", () -> {
            Both b = two();
            b.is(0, "thread", 0, 1, 0);
            b.is(true, "isBusy", 0);
            b.call("governor", 0, 'f', 1);
            b.pass(5);
            b.is(0, "work", 0);
            b.is(false, "isBusy", 0);
            b.is(3, "feed", 0, 3);
            b.is(true, "isBusy", 0);
        });
        test(NUMBER_OF_THREAD, () -> {
            Both b = busy();
            b.is(100000, "feed", 1, 1);
            b.is(99999, "work", 0);
            b.is(100000, "work", 1);
        });
        test("- `work`: more work, 1 to 99999", () -> {
            Both b = two();
            b.is(0, "thread", 0, 1, 0);
            b.is(2, "feed", 0, 1);
            b.is(100001, "feed", 0, 99999);
        });
        test("Returns the work left.", () -> {
            Both b = two();
            b.is(0, "thread", 0, 10, 0);
            b.call("governor", 0, 'f', 1);
            b.pass(4);
            b.is(4, "work", 0);
            b.is(9, "feed", 0, 5);
        });
        test(NO_THREAD, () -> {
            noSuchThread("feed", 1);
            noSuchThread("feed", 0);
        });
        test(OUT_OF_RANGE, () -> outOfRange(busy(), "feed", 1, 1, 99999, 0, 1));
        test("Throws `IllegalStateException` if it would be above 999999", () -> {
            Both b = busy();
            for (int i = 2; i <= 10; i++) {
                b.is(99999 * i, "feed", 0, 99999);
            }
            b.refuses(STATE, "feed", 0, 10);
            b.refuses(STATE, "feed", 0, 99999);
            b.is(999999, "feed", 0, 9);
            b.refuses(STATE, "feed", 0, 1);
            b.refuses(ARGUMENT, "feed", 0, 0);
            b.refuses(ARGUMENT, "feed", 0, 100000);
        });
    }

    private static void p5() {
        promise = 5;
        test("Moves a thread.", () -> {
            Both b = two();
            b.is(0, "thread", 0, 5, 0);
            b.is(0, "move", 0, 1);
            b.is(false, "isBusy", 0);
            b.is(true, "isBusy", 1);
            b.is(5, "work", 0);
            b.is(true, "isCold", 0);
        });
        test(NUMBER_OF_THREAD, () -> {
            Both b = busy();
            b.is(1, "move", 1, 0);
            b.is(true, "isBusy", 0);
            b.is(false, "isBusy", 1);
            b.is(false, "isCold", 0);
        });
        test(NUMBER_OF_CORE, () -> {
            Both b = none();
            for (int i = 0; i < 6; i++) {
                b.is(i, "core", 0, 's');
            }
            b.is(0, "thread", 0, 1, 0);
            b.is(0, "move", 0, 5);
            b.is(5, "move", 0, 0);
        });
        test("Returns the core before.", () -> {
            Both b = busy();
            b.is(0, "move", 0, 1);
            b.is(1, "move", 0, 0);
        });
        test("Throws `IndexOutOfBoundsException` if there is no such thread or core", () -> {
            noSuchThread("move", 0);
            noSuchThread("move", 6);
            Both b = busy();
            for (int core : new int[] {-1, 2, 5, 6, Integer.MIN_VALUE, Integer.MAX_VALUE}) {
                b.refuses(INDEX, "move", 0, core);
            }
            b.is(false, "isCold", 0);
        });
        test("Throws `UnsupportedOperationException` if it is there", () -> {
            Both b = busy();
            b.refuses(UNSUPPORTED, "move", 0, 0);
            b.refuses(UNSUPPORTED, "move", 1, 1);
            b.is(false, "isCold", 0);
            b.is(0, "move", 0, 1);
            b.refuses(UNSUPPORTED, "move", 0, 1);
        });
    }

    private static void p6() {
        promise = 6;
        test("Sets the governor of a core.", () -> {
            Both b = busy();
            b.is('l', "governor", 0, 'f', 5);
            b.is(1, "pass", 1);
            b.is(5, "wanted", 0);
            b.is(0, "wanted", 1);
        });
        test(NUMBER_OF_CORE, () -> {
            Both b = busy();
            b.is('l', "governor", 1, 'w', 0);
            b.is(1, "pass", 1);
            b.is(0, "wanted", 0);
            b.is(3, "wanted", 1);
        });
        test("- `kind`: 'f', 'l' or 'w'", () -> {
            Both b = busy();
            b.is('l', "governor", 0, 'w', 0);
            b.is('w', "governor", 0, 'f', 0);
            b.is('f', "governor", 0, 'l', 0);
        });
        test("- `speed`: the fixed speed, 0 to 7, of no meaning but for 'f'", () -> {
            Both b = busy();
            b.is('l', "governor", 0, 'f', 0);
            b.is('f', "governor", 0, 'f', 7);
            b.is('l', "governor", 1, 'f', 7);
            b.is(1, "pass", 1);
            b.is(7, "wanted", 0);
            b.is(4, "wanted", 1);
            for (int speed : new int[] {-1, 8, Integer.MIN_VALUE, Integer.MAX_VALUE}) {
                b.call("governor", 0, 'l', speed);
                b.is('l', "governor", 0, 'w', speed);
                b.is('w', "governor", 0, 'w', speed);
            }
            b.is(2, "pass", 1);
            b.is(3, "wanted", 0);
        });
        test("Returns the one before.", () -> {
            Both b = two();
            b.is('l', "governor", 0, 'l', 0);
            b.is('l', "governor", 0, 'w', 0);
            b.is('l', "governor", 1, 'f', 0);
            b.is('w', "governor", 0, 'w', 0);
        });
        test(NO_CORE, () -> {
            noSuchCore("governor", 'f', 0);
            noSuchCore("governor", 'x', 8);
        });
        test("Throws `IllegalArgumentException` if there is no such governor, or by 'f' the speed is out of range", () -> {
            Both b = busy();
            b.is('l', "governor", 0, 'f', 3);
            for (char kind : new char[] {'F', 'L', 'W', 'e', 'g', 'k', 'm', 'v', 'x', '-', 0, 65535}) {
                b.refuses(ARGUMENT, "governor", 0, kind, 0);
            }
            outOfRange(b, "governor", 2, 0, 7, 0, 'f', 0);
            b.is(1, "pass", 1);
            b.is(3, "wanted", 0);
            b.is('f', "governor", 0, 'f', 7);
        });
    }

    private static void p7() {
        promise = 7;
        test("Returns how much work a thread has left.", () -> {
            Both b = two();
            b.is(0, "thread", 0, 4, 0);
            b.call("governor", 0, 'f', 1);
            b.pass(3);
            b.is(1, "work", 0);
            b.pass(1);
            b.is(0, "work", 0);
            b.pass(1);
            b.is(0, "work", 0);
        });
        test(NUMBER_OF_THREAD, () -> {
            Both b = two();
            for (int i = 0; i < 8; i++) {
                b.is(i, "thread", 0, 10 + i, 0);
            }
            b.is(10, "work", 0);
            b.is(17, "work", 7);
        });
        test("Returns the work.", () -> busy().is(99999, "work", 1));
        test(NO_THREAD, () -> noSuchThread("work"));
    }

    private static void p8() {
        promise = 8;
        test("Tells whether a thread is cold.", () -> {
            Both b = busy();
            b.is(false, "isCold", 0);
            b.is(0, "move", 0, 1);
            b.is(true, "isCold", 0);
            b.is(1, "move", 0, 0);
            b.is(true, "isCold", 0);
        });
        test(NUMBER_OF_THREAD, () -> {
            Both b = busy();
            b.is(1, "move", 1, 0);
            b.is(false, "isCold", 0);
            b.is(true, "isCold", 1);
        });
        test(TRUE_IF_SO, () -> {
            Both b = busy();
            b.call("governor", 0, 'f', 1);
            b.pass(10);
            b.is(0, "move", 0, 1);
            b.is(1, "move", 0, 0);
            b.pass(4);
            b.is(true, "isCold", 0);
            b.pass(1);
            b.is(false, "isCold", 0);
        });
        test(NO_THREAD, () -> noSuchThread("isCold"));
    }

    private static void p9() {
        promise = 9;
        test("Lets ticks go by.", () -> {
            Both b = busy();
            b.call("governor", 0, 'f', 1);
            b.is(3, "pass", 3);
            b.is(99996, "work", 0);
            b.is(4, "pass", 1);
            b.is(99993, "work", 0);
        });
        test("- `ticks`: how many, 1 to 100", () -> {
            Both b = busy();
            b.is(1, "pass", 1);
            b.is(101, "pass", 100);
        });
        test("Returns how many went by in all.", () -> {
            Both b = none();
            b.is(7, "pass", 7);
            b.is(0, "core", 0, 's');
            b.is(20, "pass", 13);
        });
        test(OUT_OF_RANGE, () -> {
            Both b = busy();
            outOfRange(b, "pass", 0, 1, 100, 1);
            b.is(1, "pass", 1);
        });
        test("Throws `IllegalStateException` if it would be above 9999", () -> {
            Both b = busy();
            b.pass(9900);
            b.refuses(STATE, "pass", 100);
            b.is(9998, "pass", 98);
            b.refuses(STATE, "pass", 2);
            b.is(9999, "pass", 1);
            b.refuses(STATE, "pass", 1);
            b.refuses(STATE, "pass", 100);
            b.refuses(ARGUMENT, "pass", 0);
            b.refuses(ARGUMENT, "pass", 101);
            b.refuses(ARGUMENT, "pass", Integer.MAX_VALUE);
        });
    }

    private static void p10() {
        promise = 10;
        test("Returns the speed of a core in the last tick.", () -> {
            Both b = busy();
            b.call("governor", 0, 'f', 1);
            b.pass(2);
            b.is(0, "speed", 0);
            b.pass(1);
            b.is(1, "speed", 0);
            b.call("governor", 0, 'f', 0);
            b.is(1, "speed", 0);
            b.pass(1);
            b.is(0, "speed", 0);
        });
        test(NUMBER_OF_CORE, () -> {
            Both b = busy();
            b.call("governor", 1, 'f', 1);
            b.call("governor", 0, 'f', 0);
            b.pass(3);
            b.is(0, "speed", 0);
            b.is(1, "speed", 1);
        });
        test("Returns the speed.", () -> {
            for (char kind : new char[] {'s', 'b'}) {
                int greatest = kind == 's' ? 4 : 7;
                Both b = none();
                b.is(0, "core", 0, kind);
                b.is(0, "speed", 0);
                b.is(0, "thread", 0, 99999, 0);
                b.call("governor", 0, 'f', 7);
                b.pass(3 * greatest);
                b.is(greatest, "speed", 0);
            }
        });
        test(NO_CORE, () -> noSuchCore("speed"));
    }

    private static void p11() {
        promise = 11;
        test("Returns what the governor wanted in the last tick.", () -> {
            Both b = busy();
            b.call("governor", 0, 'f', 6);
            b.is(0, "wanted", 0);
            b.pass(1);
            b.is(6, "wanted", 0);
            b.call("governor", 0, 'f', 5);
            b.is(6, "wanted", 0);
            b.pass(1);
            b.is(5, "wanted", 0);
        });
        test(NUMBER_OF_CORE, () -> {
            Both b = busy();
            b.call("governor", 1, 'f', 2);
            b.call("governor", 0, 'f', 0);
            b.pass(1);
            b.is(0, "wanted", 0);
            b.is(2, "wanted", 1);
        });
        test("Returns the speed, 0 at first.", () -> {
            Both b = busy();
            b.call("governor", 0, 'f', 7);
            b.is(0, "wanted", 0);
            b.pass(5);
            b.is(2, "core", 0, 'b');
            b.is(0, "wanted", 2);
        });
        test(NO_CORE, () -> noSuchCore("wanted"));
    }

    private static void p12() {
        promise = 12;
        test("Returns what clamped a core in the last tick.", () -> {
            Both b = busy();
            b.call("governor", 0, 'f', 3);
            b.call("lose", 0, true);
            b.is('-', "clamp", 0);
            b.pass(1);
            b.is('n', "clamp", 0);
            b.call("lose", 0, false);
            b.is('n', "clamp", 0);
            b.pass(1);
            b.is('-', "clamp", 0);
        });
        test(NUMBER_OF_CORE, () -> {
            Both b = busy();
            b.call("governor", 0, 'f', 3);
            b.call("governor", 1, 'f', 3);
            b.call("lose", 1, true);
            b.pass(1);
            b.is('-', "clamp", 0);
            b.is('n', "clamp", 1);
        });
        test("Returns the letter, '-' for nothing.", () -> {
            Both b = busy();
            b.is('-', "clamp", 0);
            b.pass(1);
            b.is('-', "clamp", 0);
        });
        test(NO_CORE, () -> noSuchCore("clamp"));
    }

    private static void p13() {
        promise = 13;
        test("Returns how a core sleeps.", () -> {
            Both b = two();
            b.is('a', "sleep", 0);
            b.pass(3);
            b.is('l', "sleep", 0);
        });
        test(NUMBER_OF_CORE, () -> {
            Both b = two();
            b.call("thread", 1, 99999, 0);
            b.pass(10);
            b.is('d', "sleep", 0);
            b.is('a', "sleep", 1);
        });
        test("Returns 'a', 'l', 'd' or 'w'.", () -> {
            Both b = two();
            StringBuilder seen = new StringBuilder();
            for (int i = 0; i < 11; i++) {
                b.pass(1);
                seen.append(b.call("sleep", 0));
            }
            b.is(0, "thread", 0, 9, 0);
            for (int i = 0; i < 5; i++) {
                b.pass(1);
                seen.append(b.call("sleep", 0));
            }
            check.same("all of them", "aallllllldd" + "wwwwa", seen.toString());
        });
        test(NO_CORE, () -> noSuchCore("sleep"));
    }

    private static void p14() {
        promise = 14;
        test("Tells whether a core is busy now.", () -> {
            Both b = two();
            b.is(0, "thread", 0, 3, 0);
            b.is(true, "isBusy", 0);
            b.call("governor", 0, 'f', 1);
            b.pass(2);
            b.is(true, "isBusy", 0);
            b.pass(1);
            b.is(false, "isBusy", 0);
            b.is(1, "feed", 0, 1);
            b.is(true, "isBusy", 0);
            b.is(0, "move", 0, 1);
            b.is(false, "isBusy", 0);
        });
        test(NUMBER_OF_CORE, () -> {
            Both b = two();
            b.is(0, "thread", 1, 3, 0);
            b.is(false, "isBusy", 0);
            b.is(true, "isBusy", 1);
        });
        test(TRUE_IF_SO, () -> {
            Both b = two();
            b.is(false, "isBusy", 0);
            b.is(0, "thread", 0, 1, 0);
            b.is(true, "isBusy", 0);
        });
        test(NO_CORE, () -> noSuchCore("isBusy"));
    }

    private static void p15() {
        promise = 15;
        test("Returns what a speed needs now.", () -> {
            Both b = two();
            b.is(680, "need", 0, 3);
            b.is(10, "wear", 0, 10);
            b.is(681, "need", 0, 3);
            b.call("heatUp", 0, 1200);
            b.is(706, "need", 0, 3);
        });
        test(NUMBER_OF_CORE, () -> {
            Both b = two();
            b.is(20, "wear", 1, 20);
            b.is(500, "need", 0, 0);
            b.is(502, "need", 1, 0);
        });
        test("- `speed`: a speed of its kind", () -> {
            Both b = two();
            b.is(500, "need", 0, 0);
            b.is(920, "need", 0, 7);
            b.is(500, "need", 1, 0);
            b.is(740, "need", 1, 4);
        });
        test("Returns the millivolts.", () -> two().is(560, "need", 1, 1));
        test(NO_CORE, () -> {
            noSuchCore("need", 0);
            noSuchCore("need", 8);
        });
        test("Throws `IllegalArgumentException` if it is no speed of its kind", () -> {
            Both b = two();
            outOfRange(b, "need", 1, 0, 7, 0, 0);
            outOfRange(b, "need", 1, 0, 4, 1, 0);
            b.refuses(ARGUMENT, "need", 1, 7);
        });
    }

    private static void p16() {
        promise = 16;
        test("Returns the voltage of a rail.", () -> {
            Both b = busy();
            b.is(500, "volts", 0);
            b.call("governor", 0, 'f', 1);
            b.pass(1);
            b.is(520, "volts", 0);
        });
        test("- `rail`: the rail, 0 to 2", () -> {
            Both b = busy();
            b.call("governor", 1, 'f', 1);
            b.call("governor", 0, 'f', 0);
            b.pass(1);
            b.is(500, "volts", 0);
            b.is(520, "volts", 1);
            b.is(500, "volts", 2);
        });
        test("Returns the millivolts.", () -> none().is(500, "volts", 0));
        test(NO_RAIL, () -> {
            for (Both b : new Both[] {none(), busy()}) {
                for (int rail : new int[] {-1, 3, 6, Integer.MIN_VALUE, Integer.MAX_VALUE}) {
                    b.refuses(INDEX, "volts", rail);
                }
            }
        });
    }

    private static void p17() {
        promise = 17;
        test("Returns the heat of a core.", () -> {
            Both b = busy();
            b.call("governor", 0, 'f', 0);
            b.pass(1);
            b.is(402, "heat", 0);
            b.call("heatUp", 0, 1);
            b.is(403, "heat", 0);
        });
        test(NUMBER_OF_CORE, () -> {
            Both b = two();
            b.call("heatUp", 1, 5);
            b.is(400, "heat", 0);
            b.is(405, "heat", 1);
        });
        test("Returns the heat.", () -> two().is(400, "heat", 0));
        test(NO_CORE, () -> noSuchCore("heat"));
    }

    private static void p18() {
        promise = 18;
        test("Returns the degrees of a core.", () -> {
            Both b = two();
            b.call("heatUp", 0, 19);
            b.is(20, "degrees", 0);
            b.call("heatUp", 0, 1);
            b.is(21, "degrees", 0);
        });
        test(NUMBER_OF_CORE, () -> {
            Both b = two();
            b.call("heatUp", 1, 600);
            b.is(20, "degrees", 0);
            b.is(50, "degrees", 1);
        });
        test("Returns the degrees.", () -> two().is(20, "degrees", 1));
        test(NO_CORE, () -> noSuchCore("degrees"));
    }

    private static void p19() {
        promise = 19;
        test("Returns the degrees of the case.", () -> {
            Both b = two();
            b.is(20, "caseDegrees");
            b.call("heatUp", 0, 9999);
            b.pass(1);
            b.is((int) (b.caseHeat(2, 0) / 200), "caseDegrees");
            check.yes("warmer than at first", b.chip.caseDegrees() > 20);
        });
        test("Returns the degrees.", () -> none().is(20, "caseDegrees"));
    }

    private static void p20() {
        promise = 20;
        test("Returns what the sensor of a core tells.", () -> {
            Both b = two();
            b.is(20, "sensor", 0);
            b.call("heatUp", 0, 2000);
            b.pass(3);
            b.is(20, "sensor", 0);
            int degrees = b.chip.degrees(0);
            b.pass(1);
            b.is(degrees - degrees % 2, "sensor", 0);
        });
        test(NUMBER_OF_CORE, () -> {
            Both b = two();
            b.call("heatUp", 1, 2000);
            b.pass(4);
            b.is(20, "sensor", 0);
            check.yes("the hot one tells more", b.chip.sensor(1) > 80);
        });
        test("Returns the degrees.", () -> two().is(20, "sensor", 1));
        test(NO_CORE, () -> noSuchCore("sensor"));
        test("Throws `NoSuchElementException` if it is lost", () -> {
            Both b = two();
            b.is(false, "lose", 0, true);
            b.refuses(ELEMENT, "sensor", 0);
            b.is(20, "sensor", 1);
            b.pass(8);
            b.refuses(ELEMENT, "sensor", 0);
            b.is(true, "lose", 0, false);
            b.is(20, "sensor", 0);
        });
    }

    private static void p21() {
        promise = 21;
        test("Loses or finds a sensor.", () -> {
            Both b = two();
            b.is(false, "lose", 0, true);
            b.refuses(ELEMENT, "sensor", 0);
            b.is(true, "lose", 0, false);
            b.is(20, "sensor", 0);
        });
        test(NUMBER_OF_CORE, () -> {
            Both b = two();
            b.is(false, "lose", 1, true);
            b.is(20, "sensor", 0);
            b.is(false, "lose", 0, false);
            b.is(true, "lose", 1, true);
        });
        test("- `is`: whether the sensor is lost", () -> {
            Both b = two();
            b.is(false, "lose", 0, false);
            b.is(20, "sensor", 0);
            b.is(false, "lose", 0, true);
            b.is(true, "lose", 0, true);
            b.refuses(ELEMENT, "sensor", 0);
        });
        test("Returns whether it was lost.", () -> {
            Both b = two();
            b.is(false, "lose", 0, true);
            b.is(true, "lose", 0, true);
            b.is(true, "lose", 0, false);
            b.is(false, "lose", 0, false);
        });
        test(NO_CORE, () -> {
            noSuchCore("lose", true);
            noSuchCore("lose", false);
        });
    }

    private static void p22() {
        promise = 22;
        test("Tells whether a core is tripped, as of the last tick.", () -> {
            Both b = two();
            b.is(100, "heatUp", 0, 1600);
            b.is(false, "isTripped", 0);
            b.pass(1);
            b.is(true, "isTripped", 0);
        });
        test(NUMBER_OF_CORE, () -> {
            Both b = two();
            b.is(100, "heatUp", 1, 1600);
            b.pass(1);
            b.is(false, "isTripped", 0);
            b.is(true, "isTripped", 1);
        });
        test(TRUE_IF_SO, () -> {
            Both b = two();
            b.is(99, "heatUp", 0, 1599);
            b.pass(1);
            b.is(false, "isTripped", 0);
        });
        test(NO_CORE, () -> noSuchCore("isTripped"));
    }

    private static Both veryHot() {
        Both b = two();
        for (int i = 0; i < 9; i++) {
            b.call("heatUp", 0, 9999);
        }
        return b;
    }

    private static void p23() {
        promise = 23;
        test("Returns the level of the fan.", () -> {
            Both b = veryHot();
            for (int level : new int[] {0, 1, 2, 3, 3}) {
                b.is(level, "fan");
                b.pass(1);
            }
        });
        test("Returns the level.", () -> none().is(0, "fan"));
    }

    private static void p24() {
        promise = 24;
        test("Lets the fan be dead, or mends it.", () -> {
            Both b = veryHot();
            b.pass(5);
            b.is(3, "fan");
            b.is(false, "killFan", true);
            b.is(0, "fan");
            b.pass(1);
            b.is(0, "fan");
            b.is(true, "killFan", false);
            b.is(0, "fan");
            b.pass(1);
            b.is(1, "fan");
        });
        test("- `is`: whether it is dead", () -> {
            Both b = veryHot();
            b.pass(5);
            b.is(false, "killFan", false);
            b.is(3, "fan");
            b.is(false, "killFan", true);
            b.is(0, "fan");
        });
        test("Returns whether it was dead.", () -> {
            Both b = none();
            b.is(false, "killFan", false);
            b.is(false, "killFan", true);
            b.is(true, "killFan", true);
            b.is(true, "killFan", false);
            b.is(false, "killFan", false);
        });
    }

    private static void p25() {
        promise = 25;
        test("Heats a core from outside.", () -> {
            Both b = two();
            b.is(21, "heatUp", 0, 20);
            b.is(420, "heat", 0);
            b.is(400, "heat", 1);
            b.is(20L, "account", 'h');
            b.is(true, "isSound");
        });
        test(NUMBER_OF_CORE, () -> {
            Both b = two();
            b.is(21, "heatUp", 1, 20);
            b.is(400, "heat", 0);
            b.is(420, "heat", 1);
        });
        test("- `heat`: 1 to 9999", () -> {
            Both b = two();
            b.is(20, "heatUp", 0, 1);
            b.is(520, "heatUp", 0, 9999);
            b.is(10400, "heat", 0);
        });
        test("Returns its degrees then.", () -> {
            Both b = two();
            b.is(20, "heatUp", 0, 19);
            b.is(21, "heatUp", 0, 1);
            b.is(21, "degrees", 0);
        });
        test(NO_CORE, () -> {
            noSuchCore("heatUp", 1);
            noSuchCore("heatUp", 0);
        });
        test(OUT_OF_RANGE, () -> outOfRange(two(), "heatUp", 1, 1, 9999, 0, 1));
        test("Throws `IllegalStateException` if its heat would be above 99999", () -> {
            Both b = veryHot();
            b.is(400 + 9 * 9999, "heat", 0);
            b.refuses(STATE, "heatUp", 0, 9609);
            b.refuses(STATE, "heatUp", 0, 9999);
            b.is(4999, "heatUp", 0, 9608);
            b.is(99999, "heat", 0);
            b.refuses(STATE, "heatUp", 0, 1);
            b.refuses(ARGUMENT, "heatUp", 0, 0);
            b.refuses(ARGUMENT, "heatUp", 0, 10000);
            b.is(99599L, "account", 'h');
        });
    }

    private static void p26() {
        promise = 26;
        test("Sets what the wall gives.", () -> {
            Both b = busy();
            b.is(200, "wall", 1);
            b.pass(1);
            b.is(1L, "account", 'w');
            b.is(3L, "account", 'b');
        });
        test("- `gives`: what the wall gives in a tick, 0 to 999", () -> {
            Both b = veryHot();
            b.is(200, "wall", 999);
            b.is(999, "wall", 0);
            b.pass(1);
            b.is(0L, "account", 'w');
            b.is(0, "wall", 999);
            b.pass(1);
            b.is(Math.min(999L, b.chip.taken() + 30L), "account", 'w');
        });
        test("Returns what it gave before.", () -> {
            Both b = none();
            b.is(200, "wall", 0);
            b.is(0, "wall", 999);
            b.is(999, "wall", 200);
            b.is(200, "wall", 200);
        });
        test(OUT_OF_RANGE, () -> {
            Both b = none();
            outOfRange(b, "wall", 0, 0, 999, 0);
            b.is(200, "wall", 7);
            outOfRange(b, "wall", 0, 0, 999, 0);
            b.is(7, "wall", 0);
        });
    }

    /** Two busy cores of speed 0 take 2 each, all from the battery; 1250 ticks empty it. */
    private static Both onTheBattery(int ticks) {
        Both b = busy();
        b.call("governor", 0, 'f', 0);
        b.call("governor", 1, 'f', 0);
        b.call("wall", 0);
        b.pass(ticks);
        return b;
    }

    private static void p27() {
        promise = 27;
        test("Returns what is in the battery.", () -> {
            Both b = onTheBattery(1);
            b.is(4996, "battery");
            b.pass(1);
            b.is(4992, "battery");
        });
        test("Returns the charge.", () -> {
            none().is(5000, "battery");
            Both b = onTheBattery(1250);
            b.is(0, "battery");
            b.is(0, "owed");
            b.pass(1);
            b.is(0, "battery");
            b.is(4, "owed");
        });
    }

    private static void p28() {
        promise = 28;
        test("Returns what is in the purse.", () -> {
            Both b = veryHot();
            b.pass(1);
            b.is(Math.min(600, 660 - b.chip.taken()), "purse");
        });
        test("Returns the sum.", () -> none().is(600, "purse"));
    }

    private static void p29() {
        promise = 29;
        test("Returns what was taken in the last tick.", () -> {
            Both b = onTheBattery(1);
            b.is(4, "taken");
            b.call("wall", 999);
            b.is(4, "taken");
        });
        test("Returns the power, 0 at first.", () -> {
            none().is(0, "taken");
            busy().is(0, "taken");
        });
    }

    private static void p30() {
        promise = 30;
        test("Returns what was owed in the last tick.", () -> {
            Both b = onTheBattery(1251);
            b.is(4, "owed");
            b.call("wall", 3);
            b.is(4, "owed");
            b.pass(1);
            b.is(1, "owed");
            b.call("wall", 4);
            b.pass(1);
            b.is(0, "owed");
        });
        test("Returns the power, 0 at first.", () -> {
            none().is(0, "owed");
            busy().is(0, "owed");
        });
    }

    private static void p31() {
        promise = 31;
        test("Makes a request.", () -> {
            Both b = busy();
            b.is(1, "request", 5, 3);
            b.is(0, "holds");
            b.pass(1);
            b.is(5, "holds");
        });
        test("- `number`: the number, 1 to 9999", () -> {
            Both b = none();
            b.is(1, "request", 1, 0);
            b.is(2, "request", 9999, 0);
            b.refuses(UNSUPPORTED, "request", 9999, 0);
            b.pass(1);
            b.is(9999, "holds");
        });
        test("- `speed`: the speed", () -> {
            Both b = none();
            b.is(1, "request", 1, 0);
            b.is(2, "request", 2, 7);
        });
        test("Returns how many were made, those refused not.", () -> {
            Both b = none();
            b.is(1, "request", 10, 0);
            b.refuses(UNSUPPORTED, "request", 10, 0);
            b.refuses(ARGUMENT, "request", 11, 8);
            b.refuses(ARGUMENT, "request", 0, 0);
            b.is(2, "request", 11, 0);
            b.is(true, "drop");
            b.is(3, "request", 12, 0);
        });
        test(OUT_OF_RANGE, () -> {
            Both b = none();
            outOfRange(b, "request", 0, 1, 9999, 1, 0);
            outOfRange(b, "request", 1, 0, 7, 1, 0);
            b.is(1, "request", 1, 7);
            b.refuses(ARGUMENT, "request", 1, 8);
            b.refuses(ARGUMENT, "request", 0, 0);
        });
        test("Throws `UnsupportedOperationException` if it is stale", () -> {
            Both b = none();
            b.is(1, "request", 100, 3);
            b.refuses(UNSUPPORTED, "request", 100, 3);
            b.refuses(UNSUPPORTED, "request", 99, 3);
            b.refuses(UNSUPPORTED, "request", 1, 3);
            b.is(2, "request", 101, 3);
        });
    }

    private static void p32() {
        promise = 32;
        test("Returns which request holds.", () -> {
            Both b = none();
            b.is(1, "request", 7, 2);
            b.pass(1);
            b.is(7, "holds");
            b.is(2, "request", 9, 2);
            b.is(7, "holds");
            b.pass(1);
            b.is(9, "holds");
        });
        test("Returns its number, 0 for none.", () -> {
            Both b = none();
            b.is(0, "holds");
            b.is(1, "request", 1, 2);
            b.pass(1);
            b.is(1, "holds");
            b.is(true, "drop");
            b.is(0, "holds");
        });
    }

    private static void p33() {
        promise = 33;
        test("Returns why the last request that was refused was so: 'n' a number out of range, 'v' the speed, 's' stale, "
                + "the first of these.", () -> {
            Both b = none();
            b.is(1, "request", 10, 0);
            for (int number : new int[] {0, -1, 10000, Integer.MIN_VALUE, Integer.MAX_VALUE}) {
                b.refuses(ARGUMENT, "request", 11, 8);
                b.is('v', "why");
                b.refuses(ARGUMENT, "request", number, 0);
                b.is('n', "why");
                b.refuses(ARGUMENT, "request", 11, number == 0 ? -1 : 8);
                b.refuses(ARGUMENT, "request", number, 8);
                b.is('n', "why");
            }
            for (int speed : new int[] {-1, 8, Integer.MIN_VALUE, Integer.MAX_VALUE}) {
                b.refuses(ARGUMENT, "request", 10, speed);
                b.is('v', "why");
                b.refuses(UNSUPPORTED, "request", 10, 0);
                b.is('s', "why");
                b.refuses(ARGUMENT, "request", 11, speed);
                b.is('v', "why");
            }
            b.is(2, "request", 11, 7);
            b.is('v', "why");
        });
        test("Returns the letter, '-' for none.", () -> {
            Both b = busy();
            b.is('-', "why");
            b.is(1, "request", 10, 0);
            b.refuses(ARGUMENT, "pass", 0);
            b.refuses(INDEX, "speed", 9);
            b.refuses(UNSUPPORTED, "move", 0, 0);
            b.is('-', "why");
        });
    }

    private static void p34() {
        promise = 34;
        test("Drops the request that holds, and one that does not hold yet.", () -> {
            Both b = none();
            b.is(1, "request", 1, 0);
            b.pass(1);
            b.is(2, "request", 2, 0);
            b.is(true, "drop");
            b.is(0, "holds");
            b.pass(2);
            b.is(0, "holds");
        });
        test("Returns whether there was one of either.", () -> {
            Both b = none();
            b.is(false, "drop");
            b.is(1, "request", 1, 0);
            b.is(true, "drop");
            b.is(false, "drop");
            b.is(2, "request", 2, 0);
            b.pass(1);
            b.is(true, "drop");
            b.is(false, "drop");
        });
    }

    private static void p35() {
        promise = 35;
        test("Returns the age of a core.", () -> {
            Both b = two();
            b.is(0, "age", 0);
            b.is(9, "wear", 0, 9);
            b.is(0, "age", 0);
            b.is(10, "wear", 0, 1);
            b.is(1, "age", 0);
        });
        test(NUMBER_OF_CORE, () -> {
            Both b = two();
            b.is(30, "wear", 1, 30);
            b.is(0, "age", 0);
            b.is(3, "age", 1);
        });
        test("Returns the millivolts.", () -> {
            Both b = two();
            b.is(999, "wear", 0, 999);
            b.is(99, "age", 0);
            b.is(599, "need", 0, 0);
        });
        test(NO_CORE, () -> noSuchCore("age"));
    }

    private static void p36() {
        promise = 36;
        test("Tells whether a core is retired.", () -> {
            Both b = two();
            b.is(999, "wear", 0, 999);
            b.is(1009, "wear", 0, 10);
            b.is(false, "isRetired", 0);
            b.is(1010, "wear", 0, 1);
            b.is(true, "isRetired", 0);
        });
        test(NUMBER_OF_CORE, () -> {
            Both b = two();
            b.is(999, "wear", 1, 999);
            b.is(1998, "wear", 1, 999);
            b.is(false, "isRetired", 0);
            b.is(true, "isRetired", 1);
        });
        test(TRUE_IF_SO, () -> two().is(false, "isRetired", 0));
        test(NO_CORE, () -> noSuchCore("isRetired"));
    }

    private static void p37() {
        promise = 37;
        test("Wears a core from outside.", () -> {
            Both b = two();
            b.is(25, "wear", 0, 25);
            b.is(2, "age", 0);
            b.is(0, "age", 1);
        });
        test(NUMBER_OF_CORE, () -> {
            Both b = two();
            b.is(25, "wear", 1, 25);
            b.is(1, "wear", 0, 1);
        });
        test("- `wear`: 1 to 999", () -> {
            Both b = two();
            b.is(1, "wear", 0, 1);
            b.is(1000, "wear", 0, 999);
        });
        test("Returns all its wear.", () -> {
            Both b = two();
            b.is(5, "wear", 0, 5);
            b.call("heatUp", 0, 2000);
            b.pass(1);
            b.is(7, "wear", 0, 1);
        });
        test(NO_CORE, () -> {
            noSuchCore("wear", 1);
            noSuchCore("wear", 0);
        });
        test(OUT_OF_RANGE, () -> outOfRange(two(), "wear", 1, 1, 999, 0, 1));
        test("Throws `IllegalStateException` if it would be above 9999", () -> {
            Both b = two();
            for (int i = 1; i <= 10; i++) {
                b.is(999 * i, "wear", 0, 999);
            }
            b.refuses(STATE, "wear", 0, 10);
            b.refuses(STATE, "wear", 0, 999);
            b.is(9999, "wear", 0, 9);
            b.refuses(STATE, "wear", 0, 1);
            b.refuses(ARGUMENT, "wear", 0, 1000);
            b.refuses(ARGUMENT, "wear", 0, 0);
            b.call("heatUp", 0, 2000);
            b.pass(1);
            b.is(1000, "age", 0);
            b.refuses(STATE, "wear", 0, 1);
            b.is(1, "wear", 1, 1);
        });
    }

    private static void p38() {
        promise = 38;
        test("Returns an account over all ticks.", () -> {
            Both b = onTheBattery(10);
            b.is(40L, "account", 't');
            b.is(40L, "account", 'b');
            b.pass(1);
            b.is(44L, "account", 't');
        });
        test("- `kind`: 'w' from the wall, 'b' from the battery less what went into it, 'o' owed, 'h' from outside, "
                + "'a' given to the air, 't' taken", () -> {
            Both b = onTheBattery(1252);
            b.is(0L, "account", 'w');
            b.is(5000L, "account", 'b');
            b.is(8L, "account", 'o');
            b.is(0L, "account", 'h');
            b.is(5008L, "account", 't');
            b.call("wall", 34);
            b.pass(1);
            b.is(34L, "account", 'w');
            b.is(4970L, "account", 'b');
            b.is(8L, "account", 'o');
            b.is(30, "battery");
            b.call("heatUp", 0, 9);
            b.is(9L, "account", 'h');
            long inside = b.chip.heat(0) + b.chip.heat(1) + b.caseHeat(2, 2);
            b.is(800 + 4000 + 5012 + 9 - inside, "account", 'a');
        });
        test("Returns the sum.", () -> {
            for (char kind : "wbohat".toCharArray()) {
                none().is(0L, "account", kind);
            }
        });
        test("Throws `IllegalArgumentException` if there is no such account", () -> {
            Both b = onTheBattery(3);
            for (char kind = 0; kind < 300; kind++) {
                if ("wbohat".indexOf(kind) < 0) {
                    b.refuses(ARGUMENT, "account", kind);
                }
            }
            b.refuses(ARGUMENT, "account", (char) ('w' + 256));
            b.refuses(ARGUMENT, "account", (char) 65535);
        });
    }

    private static void p39() {
        promise = 39;
        test("Returns a sum over the chip.", () -> none().is((7L * 31 + 4000) * 31 + 5000, "checksum"));
        test("Returns 7 at first, then for each core 31 times itself plus the speed, then 31 times itself plus the heat; "
                + "then for each thread 31 times itself plus the work left; then 31 times itself plus the heat of the case, "
                + "then 31 times itself plus the battery.", () -> {
            Both b = none();
            for (int i = 0; i < 6; i++) {
                b.is(i, "core", 0, 's');
            }
            for (int i = 0; i < 8; i++) {
                b.is(i, "thread", 0, 99999 - i, 0);
            }
            java.math.BigInteger sum = java.math.BigInteger.valueOf(7);
            long[] parts = {0, 400, 0, 400, 0, 400, 0, 400, 0, 400, 0, 400, 99999, 99998, 99997, 99996, 99995, 99994,
                99993, 99992, 4000, 5000};
            for (long part : parts) {
                sum = sum.multiply(java.math.BigInteger.valueOf(31)).add(java.math.BigInteger.valueOf(part));
            }
            check.yes("it wraps around", sum.bitLength() > 63);
            b.is(sum.longValue(), "checksum");
        });
    }

    private static void p40() {
        promise = 40;
        test("Returns the share of cores that are busy now.", () -> {
            Both b = two();
            b.is(0f, "busyShare");
            b.is(0, "thread", 0, 1, 0);
            b.is(0.5f, "busyShare");
            b.is(1, "thread", 1, 1, 0);
            b.is(1f, "busyShare");
        });
        test("Returns their number divided by that of all, both converted to float.", () -> {
            for (int all = 1; all <= 6; all++) {
                Both b = none();
                for (int i = 0; i < all; i++) {
                    b.is(i, "core", 0, 's');
                }
                for (int i = 0; i < all; i++) {
                    b.is((float) i / (float) all, "busyShare");
                    b.is(i, "thread", i, 1, 0);
                }
                b.is(1f, "busyShare");
            }
        });
        test("Throws `NoSuchElementException` if there are none", () -> {
            Both b = none();
            b.refuses(ELEMENT, "busyShare");
            b.pass(1);
            b.refuses(ELEMENT, "busyShare");
            b.is(0, "core", 0, 's');
            b.is(0f, "busyShare");
        });
    }

    private static void p41() {
        promise = 41;
        test("Returns the mean degrees of cores.", () -> {
            Both b = two();
            b.is(20.0, "meanDegrees");
            b.call("heatUp", 0, 20);
            b.is(20.5, "meanDegrees");
        });
        test("Returns the sum divided by their number, both converted to double.", () -> {
            for (int all = 1; all <= 6; all++) {
                Both b = none();
                for (int i = 0; i < all; i++) {
                    b.is(i, "core", 0, 's');
                }
                b.call("heatUp", 0, 39);
                b.is((double) (20 * all + 1) / (double) all, "meanDegrees");
            }
        });
        test("Throws `NoSuchElementException` if there are none", () -> {
            Both b = none();
            b.refuses(ELEMENT, "meanDegrees");
            b.pass(1);
            b.refuses(ELEMENT, "meanDegrees");
            b.is(0, "core", 0, 's');
            b.is(20.0, "meanDegrees");
        });
    }

    private static void p42() {
        promise = 42;
        test("Tells whether all heat of cores and the case, and what the air got, is what was taken, came from outside, "
                + "and was there at first; what was taken came from the wall, the battery, or is owed; and the battery has "
                + "from 0 to 5000.", () -> {
            none().is(true, "isSound");
            Both b = onTheBattery(1249);
            for (int i = 0; i < 4; i++) {
                b.pass(1);
                b.is(true, "isSound");
            }
            b.is(0, "battery");
            b.call("wall", 999);
            for (int i = 0; i < 170; i++) {
                b.pass(1);
                b.is(true, "isSound");
            }
            b.is(5000, "battery");
        });
        test(TRUE_IF_SO, () -> {
            Both b = veryHot();
            b.is(true, "isSound");
            b.pass(1);
            b.is(true, "isSound");
            b.is(2, "core", 0, 's');
            b.is(true, "isSound");
        });
    }
}
