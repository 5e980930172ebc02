import java.util.function.Function;
import java.util.function.Supplier;

/**
 * Calls at the edges of what the document allows, each made in three states: with no plan, with one of run(), and
 * with one of priced(). What is refused or throws is held against the same object without that call.
 */
final class Edges {
    private static final String[] STATES = {"no plan", "a plan of run()", "a plan of priced(2)"};

    final Checks checks = new Checks();

    private static BuckTables in(int state, Supplier<BuckTables> maker) {
        BuckTables x = maker.get();
        if (state == 1) {
            x.run();
        } else if (state == 2) {
            x.priced(2);
        }
        return x;
    }

    /** Answers false, and nothing is changed. */
    void refused(String call, Supplier<BuckTables> maker, Function<BuckTables, Object> act) {
        for (int state = 0; state < STATES.length; state++) {
            unchanged(call, "false", state, maker, act);
        }
    }

    /** Throws, whether or not there is a plan, and nothing is changed. */
    void thrown(String call, Class<? extends RuntimeException> want, Supplier<BuckTables> maker,
            Function<BuckTables, Object> act) {
        for (int state = 0; state < STATES.length; state++) {
            unchanged(call, "throws." + want.getSimpleName(), state, maker, act);
        }
    }

    /** Throws while there is a plan, and nothing is changed. */
    void thrownOfPlan(String call, Class<? extends RuntimeException> want, Supplier<BuckTables> maker,
            Function<BuckTables, Object> act) {
        for (int state = 1; state < STATES.length; state++) {
            unchanged(call, "throws." + want.getSimpleName(), state, maker, act);
        }
    }

    /** Throws IllegalStateException for want of a plan, and nothing is changed. */
    void thrownWithoutPlan(String call, Supplier<BuckTables> maker, Function<BuckTables, Object> act) {
        unchanged(call, "throws.IllegalStateException", 0, maker, act);
    }

    private void unchanged(String call, String want, int state, Supplier<BuckTables> maker,
            Function<BuckTables, Object> act) {
        String name = call + ", " + STATES[state];
        checks.due(name, want, Checks.outcome(in(state, maker), act));
        String without = Snapshot.of(() -> in(state, maker));
        String with = Snapshot.of(() -> behind(() -> in(state, maker), act));
        checks.due(name + ", changes nothing", "", difference(without, with));
    }

    /** The first line that differs, as a whole snapshot is too long to be read. */
    private static String difference(String without, String with) {
        String[] before = without.split("\n");
        String[] behind = with.split("\n");
        for (int i = 0; i < Math.min(before.length, behind.length); i++) {
            if (!before[i].equals(behind[i])) {
                return behind[i] + " for " + before[i];
            }
        }
        return without.equals(with) ? "" : "another length";
    }

    /**
     * Answers as due, and tells something: there is no plan behind it, nothing can be asked of one, and a snapshot
     * shows what was told, so that none is blind to it.
     */
    void tells(String call, Object want, Supplier<BuckTables> maker, Function<BuckTables, Object> act) {
        for (int state = 0; state < STATES.length; state++) {
            String name = call + ", " + STATES[state];
            BuckTables x = in(state, maker);
            checks.due(name, want.toString(), Checks.outcome(x, act));
            asksThrow(name, x);
        }
        String without = Snapshot.of(maker);
        String with = Snapshot.of(() -> behind(maker, act));
        checks.due(call + ", changes something", false, without.equals(with));
    }

    private static BuckTables behind(Supplier<BuckTables> maker, Function<BuckTables, Object> act) {
        BuckTables x = maker.get();
        Checks.outcome(x, act);
        return x;
    }

    void tells(String call, Supplier<BuckTables> maker, Function<BuckTables, Object> act) {
        tells(call, true, maker, act);
    }

    void asksThrow(String name, BuckTables x) {
        asks(name + ", then worth()", x, BuckTables::worth);
        asks(name + ", then log(NONE, 0)", x, y -> y.log(BuckTables.NONE, 0));
        asks(name + ", then fuel(NONE, 0)", x, y -> y.fuel(BuckTables.NONE, 0));
        asks(name + ", then bound()", x, BuckTables::bound);
        asks(name + ", then price(0, 0)", x, y -> y.price(0, 0));
        asks(name + ", then override(10)", x, y -> y.override(10));
        asks(name + ", then greatest()", x, BuckTables::greatest);
    }

    private void asks(String name, BuckTables x, Function<BuckTables, Object> act) {
        checks.due(name, "throws.IllegalStateException", Checks.outcome(x, act));
    }

    /** The plan as it stands. */
    void plan(String name, BuckTables x, String logs, String fuel, long worth) {
        checks.due(name + ": logs", logs, Snapshot.logs(x));
        checks.due(name + ": fuel", fuel, Snapshot.fuel(x));
        checks.due(name + ": worth", worth, x.worth());
    }

    /** The plan that run() makes. */
    void planOfRun(String name, BuckTables x, String logs, String fuel, long worth) {
        x.run();
        plan(name, x, logs, fuel, worth);
    }
}
