import java.lang.reflect.Field;
import java.util.NoSuchElementException;

/** Promises 35 to 42: age, wear, accounts and sums. */
public final class AgeAndSumsTest {
    private static final Check check = new Check("AgeAndSumsTest");
    private static final Class<IndexOutOfBoundsException> INDEX = IndexOutOfBoundsException.class;
    private static final Class<IllegalArgumentException> ARGUMENT = IllegalArgumentException.class;

    public static void main(String[] args) throws ReflectiveOperationException {
        wearFromOutside();
        ageIsATenth();
        hotCoresWear();
        accounts();
        theChecksum();
        theBusyShare();
        theMeanOfDegrees();
        soundAllAlong();
        notSoundOnceBroken();
        check.finish();
    }

    private static void wearFromOutside() {
        Wattgovern x = new Wattgovern();
        x.core(0, 's');
        for (int core : new int[] {-1, 1, 6, Integer.MIN_VALUE, Integer.MAX_VALUE}) {
            check.fails("wear", INDEX, () -> x.wear(core, 0));
            check.fails("age", INDEX, () -> x.age(core));
            check.fails("isRetired", INDEX, () -> x.isRetired(core));
        }
        check.fails("wear 0", ARGUMENT, () -> x.wear(0, 0));
        check.fails("wear 1000", ARGUMENT, () -> x.wear(0, 1000));
        check.same("wear 1", 1, x.wear(0, 1));
        for (int i = 1; i <= 10; i++) {
            check.same("wear 999", 1 + 999 * i, x.wear(0, 999));
        }
        check.fails("above 9999", IllegalStateException.class, () -> x.wear(0, 9));
        check.same("age stays", 999, x.age(0));
        check.same("to 9999", 9999, x.wear(0, 8));
        check.fails("above 9999 by 1", IllegalStateException.class, () -> x.wear(0, 1));
        check.fails("out of range first", ARGUMENT, () -> x.wear(0, 1000));
    }

    private static void ageIsATenth() {
        Wattgovern x = new Wattgovern();
        x.core(0, 's');
        x.core(0, 's');
        x.wear(0, 9);
        check.same("9", 0, x.age(0));
        x.wear(0, 1);
        check.same("10", 1, x.age(0));
        x.wear(0, 999);
        check.same("1009", 100, x.age(0));
        check.same("100 is not above 100", false, x.isRetired(0));
        x.wear(0, 1);
        check.same("1010", 101, x.age(0));
        check.same("101 is", true, x.isRetired(0));
        check.same("the other core is new", 0, x.age(1));
        check.same("and not retired", false, x.isRetired(1));
        x.governor(0, 'f', 1);
        x.pass(1);
        check.same("clamped", 'r', x.clamp(0));
    }

    private static void hotCoresWear() {
        Wattgovern x = new Wattgovern();
        x.core(0, 's');
        x.core(0, 's');
        x.wear(0, 9);
        x.wear(1, 9);
        x.heatUp(0, 1299);
        x.heatUp(1, 1300);
        check.same("84", 84, x.degrees(0));
        check.same("85", 85, x.degrees(1));
        x.pass(1);
        check.same("84 does not wear", 0, x.age(0));
        check.same("85 does", 1, x.age(1));
        check.same("by 1", 11, x.wear(1, 1));
        x.wear(1, 998);
        x.heatUp(1, 3000);
        check.same("not yet retired", false, x.isRetired(1));
        x.governor(1, 'f', 3);
        x.pass(1);
        check.same("retired by a tick", true, x.isRetired(1));
        check.same("in that very tick", 'r', x.clamp(1));
    }

    private static void accounts() {
        Wattgovern x = new Wattgovern();
        for (char kind : new char[] {'x', 'W', '-', ' ', 0, 65535, 'c', 's'}) {
            check.fails("account " + (int) kind, ARGUMENT, () -> x.account(kind));
        }
        x.core(0, 's');
        x.heatUp(0, 77);
        check.same("outside at once", 77L, x.account('h'));
        x.heatUp(0, 9999);
        x.wall(3);
        x.pass(7);
        check.same("outside in all", 10076L, x.account('h'));
        check.same("taken", x.account('w') + x.account('b') + x.account('o'), x.account('t'));
        check.same("wall", 21L, x.account('w'));
        check.yes("battery", x.account('b') > 0);
        check.same("battery", 5000L - x.battery(), x.account('b'));
        check.yes("air", x.account('a') > 0);
    }

    private static void theChecksum() {
        Wattgovern x = new Wattgovern();
        x.core(0, 'b');
        x.core(1, 's');
        x.thread(0, 1234, 0);
        x.thread(1, 77, 0);
        x.heatUp(1, 5);
        long due = 7;
        for (long part : new long[] {0, 400, 0, 405, 1234, 77, 4000, 5000}) {
            due = 31 * due + part;
        }
        check.same("cores, threads, case, battery", due, x.checksum());
        x.governor(0, 'f', 1);
        x.wall(0);
        x.pass(3);
        due = 7;
        long caseHeat = 4805 + x.account('t') - x.account('a') - x.heat(0) - x.heat(1);
        for (long part : new long[] {1, x.heat(0), 0, x.heat(1), 1231, 77, caseHeat, x.battery()}) {
            due = 31 * due + part;
        }
        check.same("with a speed", 1, x.speed(0));
        check.same("as it goes", due, x.checksum());
    }

    private static void theBusyShare() {
        Wattgovern x = new Wattgovern();
        check.fails("no cores", NoSuchElementException.class, x::busyShare);
        x.core(0, 's');
        check.same("0 of 1", 0f, x.busyShare());
        x.thread(0, 5, 0);
        x.thread(0, 5, 0);
        check.same("1 of 1", 1f, x.busyShare());
        x.core(0, 's');
        x.core(0, 's');
        check.same("1 of 3", 1f / 3f, x.busyShare());
        x.thread(2, 5, 0);
        check.same("2 of 3", 2f / 3f, x.busyShare());
        x.move(1, 1);
        check.same("3 of 3", 1f, x.busyShare());
    }

    private static void theMeanOfDegrees() {
        Wattgovern x = new Wattgovern();
        check.fails("no cores", NoSuchElementException.class, x::meanDegrees);
        x.core(0, 's');
        check.same("20", 20.0, x.meanDegrees());
        x.core(0, 's');
        x.core(0, 's');
        x.heatUp(1, 39);
        check.same("20, 21, 20", 61.0 / 3.0, x.meanDegrees());
        x.heatUp(2, 20);
        check.same("20, 21, 21", 62.0 / 3.0, x.meanDegrees());
    }

    private static void soundAllAlong() {
        Wattgovern x = new Wattgovern();
        check.yes("new", x.isSound());
        for (int i = 0; i < 6; i++) {
            x.core(i % 3, i % 2 == 0 ? 'b' : 's');
            x.thread(i, 99999, i);
            x.heatUp(i, 9999);
        }
        x.killFan(true);
        for (int i = 0; i < 90; i++) {
            x.wall(i % 3 * 100);
            x.pass(100);
            check.yes("sound in tick " + (i + 1) * 100, x.isSound());
            check.yes("battery from 0 to 5000", x.battery() >= 0 && x.battery() <= 5000);
        }
    }

    /** No run of calls comes there, so the sums are broken by hand: each of them for itself must be seen. */
    private static void notSoundOnceBroken() throws ReflectiveOperationException {
        check.same("heat of no source", false, chipWith("cooling", "givenToAir", 1).isSound());
        check.same("heat that is gone", false, chipWith("cooling", "givenToAir", -1).isSound());
        check.same("power of no source", false, chipWith("supply", "sumFromWall", -1).isSound());
        check.same("from the wall to nowhere", false, chipWith("supply", "sumFromWall", 1).isSound());
        check.same("from the battery to nowhere", false, chipWith("supply", "sumFromBattery", 1).isSound());
        check.same("owed for nothing", false, chipWith("supply", "sumOwed", 1).isSound());
        check.same("taken from nowhere", false, chipWith("supply", "sumTaken", 1).isSound());
        for (int more : new int[] {-5001, -5000, -1, 0, 1}) {
            Wattgovern x = chipWith("supply", "battery", more);
            check.same("a battery of " + x.battery(), more >= -5000 && more <= 0, x.isSound());
        }
    }

    /** A full chip behind some ticks, one number of which is changed from inside. */
    private static Wattgovern chipWith(String part, String number, int more) throws ReflectiveOperationException {
        Wattgovern x = new Wattgovern();
        x.core(0, 's');
        x.heatUp(0, 9999);
        x.pass(7);
        Field partField = Wattgovern.class.getDeclaredField(part);
        partField.setAccessible(true);
        Object owner = partField.get(x);
        Field field = owner.getClass().getDeclaredField(number);
        field.setAccessible(true);
        if (field.getType() == int.class) {
            field.setInt(owner, field.getInt(owner) + more);
        } else {
            field.setLong(owner, field.getLong(owner) + more);
        }
        return x;
    }
}
