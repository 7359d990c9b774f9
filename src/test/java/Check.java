import java.util.Objects;

/** Counts answers that are as due and answers that are not; each test program has one. */
final class Check {
    interface Call {
        Object answer();
    }

    private final String program;
    private int right = 0;
    private int wrong = 0;

    Check(String program) {
        this.program = program;
    }

    void same(String what, Object due, Object got) {
        if (Objects.equals(due, got)) {
            right++;
        } else {
            wrong++;
            System.out.println(program + ": " + what + " answered " + got + ", due is " + due);
        }
    }

    void yes(String what, boolean got) {
        same(what, true, got);
    }

    /** The call must throw exactly this class, not one below it. */
    void fails(String what, Class<? extends RuntimeException> due, Call call) {
        Object got;
        try {
            got = call.answer();
        } catch (RuntimeException thrown) {
            got = thrown.getClass();
        }
        same(what, due, got);
    }

    int count() {
        return right + wrong;
    }

    void finish() {
        System.out.println(program + ": " + right + " answers as due, " + wrong + " not");
        if (wrong > 0 || right == 0) {
            System.exit(1);
        }
    }
}
