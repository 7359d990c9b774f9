import java.lang.reflect.Array;
import java.lang.reflect.Field;
import java.lang.reflect.Modifier;
import java.util.ArrayList;
import java.util.List;
import java.util.NoSuchElementException;
import java.util.Random;

/** Each part of the document's first paragraphs, what the chip is and how long it is used, has its test here. */
public final class FirstParagraphsTest {
    private static final Check check = new Check("FirstParagraphsTest");
    private static final Doc doc = new Doc(check);
    private static final String TITLE = "What it is";
    private static final int MUCH = 99999;
    /** A tenth of the room of 600,000 objects and 7.3 million elements, divided by 512 calls, holds a whole chip. */
    private static final int MOST_OBJECTS = 117;
    private static final int MOST_ELEMENTS = 1425;

    public static void main(String[] args) throws ReflectiveOperationException {
        ofSpeeds();
        ofHeat();
        ofPower();
        ofLongUse();
        doc.allTested(TITLE);
        aChipIsSmall();
        check.finish();
    }

    private static void test(String sentence, Doc.Test test) {
        doc.test(TITLE, sentence, test);
    }

    /** Each core has a rail of its own, while there are three. */
    private static Both chip(String kinds) {
        Both b = new Both(check, TITLE);
        for (int i = 0; i < kinds.length(); i++) {
            b.is(i, "core", i % 3, kinds.charAt(i));
        }
        return b;
    }

    /** As above, each core with a thread of much work. */
    private static Both busy(String kinds) {
        Both b = chip(kinds);
        for (int i = 0; i < kinds.length(); i++) {
            b.is(i, "thread", i, MUCH, 0);
        }
        return b;
    }

    /** What the core answers behind each of the next ticks. */
    private static String path(Both b, String asks, int core, int ticks) {
        StringBuilder all = new StringBuilder();
        for (int i = 0; i < ticks; i++) {
            b.pass(1);
            all.append(b.call(asks, core));
        }
        return all.toString();
    }

    private static void ofSpeeds() {
        test("cores of two kinds whose speeds follow work,", () -> {
            String[] kinds = {"ss", "bs"};
            String[] due = {"0001112223334444444444", "0001112223334445556667"};
            String[] back = {"4300", "7600"};
            for (int i = 0; i < 2; i++) {
                Both b = chip(kinds[i]);
                b.is(0, "thread", 0, MUCH, 0);
                check.same("up by work", due[i], path(b, "speed", 0, 22));
                b.is(0, "move", 0, 1);
                check.same("down without, until it sleeps", back[i], path(b, "speed", 0, 4));
            }
        });
        test("rails that several share and whose voltage must be there ahead of a speed,", () -> {
            Both b = new Both(check, TITLE);
            for (int core = 0; core < 2; core++) {
                b.is(core, "core", 1, 'b');
                b.is(core, "thread", core, MUCH, 0);
                b.call("governor", core, 'f', core == 0 ? 2 : 1);
            }
            check.same("540 is too little", "00", path(b, "speed", 1, 2));
            check.same("560 is enough for 1", "111", path(b, "speed", 0, 3));
            b.is(1, "speed", 1);
            b.pass(1);
            b.is(620, "volts", 1);
            b.is(2, "speed", 0);
            b.is(1, "speed", 1);
            b.is(500, "volts", 0);
        });
        test("governors,", () -> {
            Both b = busy("b");
            b.is(1, "thread", 0, MUCH, 0);
            for (String due : new String[] {"l0", "l1", "f5", "w6"}) {
                b.call("governor", 0, due.charAt(0), 5);
                b.pass(1);
                b.is(due.charAt(1) - '0', "wanted", 0);
            }
        });
        test("sleep with its waking,", () -> {
            Both b = chip("s");
            check.same("to sleep", "aallllllld", path(b, "sleep", 0, 10));
            b.is(0, "thread", 0, MUCH, 0);
            check.same("and awake", "wwwwa", path(b, "sleep", 0, 5));
        });
        test("threads that move and find caches cold,", () -> {
            Both b = busy("bb");
            b.call("governor", 0, 'f', 0);
            b.call("governor", 1, 'f', 1);
            b.pass(3);
            b.is(1, "move", 1, 0);
            b.is(0, "move", 0, 1);
            for (int left = 1; left <= 5; left++) {
                b.is(true, "isCold", 0);
                b.pass(1);
                b.is(MUCH - left, "work", 0);
            }
            b.is(false, "isCold", 0);
            b.pass(1);
            b.is(MUCH - 5 - 3, "work", 0);
        });
    }

    private static void ofHeat() {
        test("heat that goes from cores to a case and to the air,", () -> {
            Both b = chip("s");
            b.is(519, "heatUp", 0, 9999);
            long air = 0;
            for (int i = 0; i < 500; i++) {
                int heat = b.chip.heat(0);
                boolean isWarmer = b.chip.degrees(0) > b.chip.caseDegrees();
                b.pass(1);
                check.yes("the core cools down", !isWarmer || i < 10 || b.chip.heat(0) < heat);
                check.yes("the air gets no less", b.chip.account('a') >= air);
                air = b.chip.account('a');
            }
            check.yes("the case was warmed, and the air", b.chip.caseDegrees() > 20 && air > 5000);
            check.yes("the core has nearly the degrees of the case", b.chip.degrees(0) - b.chip.caseDegrees() < 3);
        });
        test("sensors that lag and can be lost,", () -> {
            Both b = chip("s");
            b.pass(3);
            b.is(100, "heatUp", 0, 1600);
            b.is(20, "sensor", 0);
            b.pass(1);
            b.is(100, "sensor", 0);
            b.is(false, "lose", 0, true);
            b.refuses(NoSuchElementException.class, "sensor", 0);
        });
        test("a trip that no sensor can spare,", () -> {
            for (boolean lost : new boolean[] {false, true}) {
                Both b = busy("b");
                b.call("lose", 0, lost);
                b.pass(7);
                b.is(2, "speed", 0);
                b.call("heatUp", 0, 9999);
                b.pass(1);
                b.is(true, "isTripped", 0);
                b.is('t', "clamp", 0);
                b.is(0, "speed", 0);
            }
        });
        test("a fan with its own mind,", () -> {
            Both b = chip("s");
            for (int i = 0; i < 9; i++) {
                b.call("heatUp", 0, 9999);
            }
            check.same("up, though nobody asks", 3, followFan(b, 3));
            check.same("and down, though nobody asks", 0, followFan(b, 996));
            b.call("heatUp", 0, 9999);
            b.is(false, "killFan", true);
            check.same("but not a dead one", 0, followFan(b, 50));
        });
        test("and parts that age.", () -> {
            Both b = chip("s");
            for (int i = 0; i < 9; i++) {
                b.call("heatUp", 0, 9999);
            }
            b.pass(10);
            b.is(1, "age", 0);
            b.is(526, "need", 0, 0);
            b.call("wear", 0, 999);
            b.is(100, "age", 0);
            b.is(false, "isRetired", 0);
            b.pass(1);
            b.is(101, "age", 0);
            b.is(true, "isRetired", 0);
        });
    }

    /** Each tick changes the level by at most 1. */
    private static int followFan(Both b, int ticks) {
        for (int i = 0; i < ticks; i++) {
            int before = b.chip.fan();
            b.pass(1);
            check.yes("a step of the fan", Math.abs(b.chip.fan() - before) <= 1);
        }
        return b.chip.fan();
    }

    private static void ofPower() {
        test("The heat and power of a chip,", () -> {
            Both b = busy("bsb");
            for (int i = 0; i < 100; i++) {
                long before = heatOf(b);
                long air = b.chip.account('a');
                b.pass(1);
                check.same("the power of a tick", (long) b.chip.taken(), heatOf(b) - before + b.chip.account('a') - air);
            }
            b.is(true, "isSound");
        });
        test("tick by tick:", () -> {
            Both one = busy("bsb");
            Both many = busy("bsb");
            one.is(73, "pass", 73);
            for (int i = 1; i <= 73; i++) {
                many.is(i, "pass", 1);
            }
            check.same("73 ticks at once, and one by one", View.of(one.chip), View.of(many.chip));
        });
        test("a purse for bursts,", () -> {
            Both b = busy("b");
            b.call("governor", 0, 'f', 7);
            b.pass(21);
            b.is(7, "speed", 0);
            check.yes("more is taken than 60", b.chip.taken() > 60);
            String clamps = path(b, "clamp", 0, 60);
            check.yes("a burst, then the purse is empty, then full enough: " + clamps, clamps.matches("-+p.*-.*"));
        });
        test("a battery beside the wall,", () -> {
            Both b = busy("b");
            b.call("governor", 0, 'f', 0);
            b.call("wall", 0);
            b.pass(50);
            b.is(5000 - 50 * 2, "battery");
            b.call("wall", 999);
            b.pass(3);
            b.is(4990, "battery");
            b.pass(1);
            b.is(5000, "battery");
            b.is(50L * 2 + 4 * 2, "account", 'w');
        });
        test("requests that may be stale,", () -> {
            Both b = busy("b");
            b.is(1, "request", 5, 1);
            b.refuses(UnsupportedOperationException.class, "request", 5, 0);
            b.is('s', "why");
            b.pass(12);
            b.is(5, "holds");
            b.is('q', "clamp", 0);
            b.is(1, "speed", 0);
        });
    }

    private static long heatOf(Both b) {
        long sum = b.caseHeat(3, 3);
        for (int core = 0; core < 3; core++) {
            sum += b.chip.heat(core);
        }
        return sum;
    }

    private static void ofLongUse() {
        test("An object is used for at most 512 calls after it has been made;", () -> {
            Both b = busy("bsbsbs");
            Random random = new Random(6);
            for (int call = 12; call < 512; call++) {
                switch (call % 5) {
                    case 0:
                        b.call("heatUp", random.nextInt(6), 1 + random.nextInt(400));
                        break;
                    case 1:
                        b.call("move", random.nextInt(6), random.nextInt(6));
                        break;
                    case 2:
                        b.call("governor", random.nextInt(6), "flw".charAt(random.nextInt(3)), random.nextInt(8));
                        break;
                    default:
                        b.call("pass", 1 + random.nextInt(48));
                }
            }
            check.yes("all 512 agree", b.agree());
            b.is(true, "isSound");
        });
        test("what later calls answer is free.", () -> {
            Both b = busy("sb");
            for (int call = 4; call < 2000; call++) {
                b.call("pass", 1 + call % 9);
            }
            check.yes("and here it is no other, up to the last tick", b.agree() && b.chip.isSound());
        });
    }

    /** What a run makes lives in one room, so a chip is small, and its ticks and questions make nothing that stays. */
    private static void aChipIsSmall() throws ReflectiveOperationException {
        Both b = busy("bsbsbs");
        b.call("thread", 0, MUCH, 0);
        b.call("thread", 0, MUCH, 0);
        int[] first = sizeOf(b.chip);
        check.yes("objects: " + first[0], first[0] > 20 && first[0] <= MOST_OBJECTS);
        check.yes("fields and elements: " + first[1], first[1] > 100 && first[1] <= MOST_ELEMENTS);
        for (int i = 0; i < 100; i++) {
            b.call("pass", 99);
            b.askAll(6, 8);
        }
        check.same("objects at the end", first[0], sizeOf(b.chip)[0]);
        check.same("fields and elements at the end", first[1], sizeOf(b.chip)[1]);
    }

    /** How many objects and arrays are reached from this one, and how many fields and elements they have. */
    private static int[] sizeOf(Object root) throws ReflectiveOperationException {
        List<Object> found = new ArrayList<>(List.of(root));
        int elements = 0;
        for (int i = 0; i < found.size(); i++) {
            Object each = found.get(i);
            if (each.getClass().isArray()) {
                elements += Array.getLength(each);
                for (int place = 0; !each.getClass().getComponentType().isPrimitive() && place < Array.getLength(each); place++) {
                    note(found, Array.get(each, place));
                }
                continue;
            }
            for (Field field : each.getClass().getDeclaredFields()) {
                if (!Modifier.isStatic(field.getModifiers())) {
                    elements++;
                    field.setAccessible(true);
                    if (!field.getType().isPrimitive()) {
                        note(found, field.get(each));
                    }
                }
            }
        }
        return new int[] {found.size(), elements};
    }

    private static void note(List<Object> found, Object other) {
        for (Object each : found) {
            if (each == other) {
                return;
            }
        }
        if (other != null) {
            found.add(other);
        }
    }
}
