import java.util.StringJoiner;
import java.util.function.Function;
import java.util.function.Supplier;

/**
 * All that later calls answer of an object, as one text: two objects of which the same was told, and that have
 * the same plan, have the same one. Each question is put to a new object, so that none has more than 512 calls
 * and none spoils the next; what is told is read in steps of ten parts, up to place 140.
 */
final class Snapshot {
    private static final int NONE = BuckTables.NONE;
    private static final int FURTHEST = 140;
    private static final int SIZE = 100000;
    private static final int[] WORTHS = {0, 1, 2, 3, 5, 7, SIZE};

    private final Supplier<BuckTables> maker;
    private final StringJoiner all = new StringJoiner("\n");

    private Snapshot(Supplier<BuckTables> maker) {
        this.maker = maker;
    }

    static String of(Supplier<BuckTables> maker) {
        Snapshot made = new Snapshot(maker);
        made.ask("plan", Snapshot::plan);
        made.ask("overrides", Snapshot::overrides);
        made.ask("run", x -> x.run() + " " + plan(x));
        made.ask("priced(1)", x -> x.priced(1) + " " + plan(x));
        made.ask("priced(10)", x -> x.priced(10) + " " + plan(x));
        made.room();
        made.lastPoint();
        made.cutsAndBars();
        made.numbers();
        made.profiles();
        made.products();
        return made.all.toString();
    }

    private void ask(String name, Function<BuckTables, Object> question) {
        all.add(name + ": " + Checks.outcome(maker.get(), question));
    }

    /** All that can be asked of the plan, without making one. */
    static String plan(BuckTables x) {
        StringJoiner told = new StringJoiner(" ");
        told.add(Checks.outcome(x, BuckTables::worth));
        told.add(Checks.outcome(x, BuckTables::bound));
        told.add(Checks.outcome(x, BuckTables::greatest));
        told.add("logs " + Checks.outcome(x, Snapshot::logs));
        told.add("fuel " + Checks.outcome(x, Snapshot::fuel));
        for (int p = 0; p < 8; p++) {
            for (int part = 0; part < 3; part++) {
                int product = p;
                int which = part;
                told.add(Checks.outcome(x, y -> y.price(product, which)));
            }
        }
        return told.toString();
    }

    /** Logs as stem:first+steps=product(worth). */
    static String logs(BuckTables x) {
        StringJoiner told = new StringJoiner(" ");
        for (int k = 0; k < x.log(NONE, 0); k++) {
            told.add(x.log(k, 0) + ":" + x.log(k, 1) + "+" + x.log(k, 2) + "=" + x.log(k, 3) + "(" + x.log(k, 4) + ")");
        }
        return told.toString();
    }

    /** Rows of FUEL as stem:first+steps. */
    static String fuel(BuckTables x) {
        StringJoiner told = new StringJoiner(" ");
        for (int k = 0; k < x.fuel(NONE, 0); k++) {
            told.add(x.fuel(k, 0) + ":" + x.fuel(k, 1) + "+" + x.fuel(k, 2));
        }
        return told.toString();
    }

    /** Tells by what the plan was made, and in how many rounds at most. */
    private static String overrides(BuckTables x) {
        StringJoiner told = new StringJoiner(" ");
        for (int at = 10; at <= FURTHEST; at += 10) {
            int place = at;
            told.add(Checks.outcome(x, y -> y.override(place)));
        }
        return told + " " + plan(x);
    }

    /** How often something can be told until there is no room. */
    private static String howOften(BuckTables x, Function<BuckTables, Object> call) {
        int often = 0;
        String answer = Checks.outcome(x, call);
        while (often < 100 && !answer.startsWith("throws.")) {
            often++;
            answer = Checks.outcome(x, call);
        }
        return often + " then " + answer;
    }

    private void room() {
        ask("room for faults", x -> howOften(x, y -> y.fault(0, 1, 0)));
        ask("room for stems", x -> howOften(x, BuckTables::stems));
        ask("room for products", x -> howOften(x, y -> y.product(1, 1, 0, 0, 0)));
        ask("room for points", Snapshot::roomForPoints);
    }

    private static String roomForPoints(BuckTables x) {
        int often = 0;
        for (int at = 0; at <= 300; at++) {
            int place = at;
            String answer = Checks.outcome(x, y -> y.stem(place, 0, 0));
            if (answer.startsWith("throws.")) {
                return often + " then " + answer;
            }
            often += answer.equals("true") ? 1 : 0;
        }
        return String.valueOf(often);
    }

    private void lastPoint() {
        ask("last place", x -> firstThat(x, 0, 1, (y, at) -> y.stem(at, 0, 0)));
        ask("last top", x -> firstThat(x, 30, -1, (y, top) -> y.stem(FURTHEST, top, 0)));
    }

    private interface Try {
        boolean of(BuckTables x, int number);
    }

    private static int firstThat(BuckTables x, int from, int by, Try call) {
        for (int number = from; number >= 0 && number <= 200; number += by) {
            if (call.of(x, number)) {
                return number;
            }
        }
        return NONE;
    }

    private void cutsAndBars() {
        for (int at = 0; at <= FURTHEST; at += 5) {
            int place = at;
            ask("forced at " + at, x -> x.force(place));
        }
        for (int i = 0; i < 64; i++) {
            int each = i;
            ask("product " + i / 8 + " bars " + i % 8, x -> x.bars(each / 8, each % 8));
        }
    }

    private void numbers() {
        for (int v : new int[] {0, 1, 2, 3, 4, 5, 6, SIZE}) {
            ask("margin " + v, x -> x.margin(v));
        }
        for (int loss = 0; loss <= 3; loss++) {
            int each = loss;
            ask("saw " + loss, x -> x.saw(each));
        }
        for (int worth : WORTHS) {
            ask("wishes of " + worth, x -> {
                StringJoiner told = new StringJoiner(" ");
                for (int i = 0; i < 56; i++) {
                    int each = i;
                    told.add(Checks.outcome(x, y -> y.wish(each / 7, each % 7, worth)));
                }
                return told;
            });
        }
    }

    /** Which steps there are that a further product could have: by sweep, by top, by kinds of faults. */
    private void profiles() {
        for (int v = 0; v <= 25; v++) {
            int each = v;
            ask("top " + v, x -> stepsFor(x, each, SIZE, NONE));
            ask("sweep " + v, x -> stepsFor(x, 0, each, NONE));
        }
        for (int kind = 0; kind < 8; kind++) {
            int each = kind;
            ask("kind " + kind, x -> stepsFor(x, 0, SIZE, each));
        }
    }

    /** What logs there are of a product, when it is wished above all others. */
    private void products() {
        for (int p = 0; p < 8; p++) {
            int product = p;
            ask("product " + p, x -> {
                for (int day = 0; day < 7; day++) {
                    x.wish(product, day, SIZE);
                }
                x.run();
                return logs(x);
            });
        }
    }

    private static String stepsFor(BuckTables x, int top, int sweep, int kind) {
        int product = x.product(10, 10, top, sweep, SIZE);
        if (kind != NONE) {
            x.bars(product, kind);
        }
        x.margin(0);
        x.saw(0);
        x.run();
        return logs(x);
    }
}
