import java.util.function.Function;

/** Counts the calls whose answer is not the one that is due. */
final class Checks {
    interface Call {
        long answer();
    }

    interface Ask {
        boolean answer();
    }

    static final Class<? extends RuntimeException> STATE = IllegalStateException.class;
    static final Class<? extends RuntimeException> INDEX = IndexOutOfBoundsException.class;
    static final Class<? extends RuntimeException> ARGUMENT = IllegalArgumentException.class;

    private int made = 0;
    private int wrong = 0;

    void due(String call, long want, long got) {
        made++;
        if (want != got) {
            tell(call, String.valueOf(got), String.valueOf(want));
        }
    }

    void due(String call, boolean want, boolean got) {
        due(call, want ? 1 : 0, got ? 1 : 0);
    }

    void due(String call, String want, String got) {
        made++;
        if (!want.equals(got)) {
            tell(call, got, want);
        }
    }

    void fails(String call, Class<? extends RuntimeException> want, Call act) {
        made++;
        String got = outcome(act);
        if (!got.equals("throws." + want.getSimpleName())) {
            tell(call, got, "throws." + want.getSimpleName());
        }
    }

    void failsToo(String call, Class<? extends RuntimeException> want, Ask act) {
        fails(call, want, () -> act.answer() ? 1 : 0);
    }

    /** The answer as text, or the exception's own class: one of a class below it is another one. */
    static String outcome(Call act) {
        try {
            return String.valueOf(act.answer());
        } catch (RuntimeException e) {
            return "throws." + e.getClass().getSimpleName();
        }
    }

    /** What a call on an object answers, or the exception's own class. */
    static String outcome(BuckTables x, Function<BuckTables, Object> act) {
        try {
            return String.valueOf(act.apply(x));
        } catch (RuntimeException e) {
            return "throws." + e.getClass().getSimpleName();
        }
    }

    private void tell(String call, String got, String want) {
        wrong++;
        if (wrong <= 50) {
            System.out.println(call + " answered " + got + ", due is " + want);
        }
    }

    void end() {
        System.out.println(wrong == 0 ? made + " answers are as due" : wrong + " answers are not as due");
        if (wrong != 0) {
            System.exit(1);
        }
    }
}
