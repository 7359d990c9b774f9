import java.lang.reflect.Method;

/** The document's own example, call by call: as ../shared/DOC.md has it, and once more as it is written out here. */
public final class ExampleTest {
    private static final Check check = new Check("ExampleTest");

    public static void main(String[] args) throws ReflectiveOperationException {
        if (Doc.isThere()) {
            theDocumentsText();
        }
        writtenOut();
        check.finish();
    }

    /** Each call there reads "name(given) = answer", with a ; behind it, and a . behind the last. */
    private static void theDocumentsText() throws ReflectiveOperationException {
        Wattgovern chip = new Wattgovern();
        String text = Doc.part("```text", "```").replaceAll("\\s+", " ").trim();
        int calls = 0;
        for (String step : text.substring(0, text.length() - 1).split("; ")) {
            Method method = Both.named(step.substring(0, step.indexOf('(')));
            String given = step.substring(step.indexOf('(') + 1, step.indexOf(") = "));
            Class<?>[] types = method.getParameterTypes();
            Object[] values = new Object[types.length];
            for (int i = 0; i < types.length; i++) {
                values[i] = read(types[i], given.split(", ")[i].replace("'", ""));
            }
            Object due = read(method.getReturnType(), step.substring(step.indexOf(") = ") + 4));
            check.same("the document's " + step, due, method.invoke(chip, values));
            calls++;
        }
        check.same("calls of the example", 49, calls);
    }

    private static Object read(Class<?> type, String text) {
        switch (type.getSimpleName()) {
            case "int":
                return Integer.valueOf(text);
            case "long":
                return Long.valueOf(text);
            case "float":
                return Float.valueOf(text);
            case "double":
                return Double.valueOf(text);
            case "boolean":
                return Boolean.valueOf(text);
            default:
                return text.charAt(0);
        }
    }

    private static void writtenOut() {
        Wattgovern x = new Wattgovern();
        check.same("core(0, 'b')", 0, x.core(0, 'b'));
        check.same("core(0, 's')", 1, x.core(0, 's'));
        check.same("thread(0, 500, 0)", 0, x.thread(0, 500, 0));
        check.same("thread(1, 300, 5)", 1, x.thread(1, 300, 5));
        check.same("need(0, 3)", 680, x.need(0, 3));
        check.same("governor(0, 'f', 6)", 'l', x.governor(0, 'f', 6));
        check.same("pass(1)", 1, x.pass(1));
        check.same("volts(0)", 520, x.volts(0));
        check.same("speed(0)", 0, x.speed(0));
        check.same("wanted(0)", 6, x.wanted(0));
        check.same("pass(10)", 11, x.pass(10));
        check.same("speed(0)", 3, x.speed(0));
        check.same("work(0)", 446, x.work(0));
        check.same("taken()", 94, x.taken());
        check.same("isBusy(0)", true, x.isBusy(0));
        check.same("heat(0)", 619, x.heat(0));
        check.same("degrees(0)", 30, x.degrees(0));
        check.same("caseDegrees()", 20, x.caseDegrees());
        check.same("sensor(0)", 24, x.sensor(0));
        check.same("purse()", 510, x.purse());
        check.same("clamp(1)", '-', x.clamp(1));
        check.same("request(5, 1)", 1, x.request(5, 1));
        check.same("pass(1)", 12, x.pass(1));
        check.same("holds()", 5, x.holds());
        check.same("clamp(0)", 'q', x.clamp(0));
        check.same("lose(0, true)", false, x.lose(0, true));
        check.same("heatUp(0, 1800)", 121, x.heatUp(0, 1800));
        check.same("pass(1)", 13, x.pass(1));
        check.same("isTripped(0)", true, x.isTripped(0));
        check.same("drop()", true, x.drop());
        check.same("why()", '-', x.why());
        check.same("move(0, 1)", 0, x.move(0, 1));
        check.same("isCold(0)", true, x.isCold(0));
        check.same("feed(0, 99)", 542, x.feed(0, 99));
        check.same("wall(0)", 200, x.wall(0));
        check.same("pass(20)", 33, x.pass(20));
        check.same("sleep(0)", 'd', x.sleep(0));
        check.same("battery()", 3697, x.battery());
        check.same("owed()", 0, x.owed());
        check.same("fan()", 0, x.fan());
        check.same("killFan(true)", false, x.killFan(true));
        check.same("wear(1, 99)", 99, x.wear(1, 99));
        check.same("age(1)", 9, x.age(1));
        check.same("isRetired(1)", false, x.isRetired(1));
        check.same("account('t')", 1894L, x.account('t'));
        check.same("checksum()", 7042816973370L, x.checksum());
        check.same("busyShare()", 0.5f, x.busyShare());
        check.same("meanDegrees()", 63.0, x.meanDegrees());
        check.same("isSound()", true, x.isSound());
    }
}
