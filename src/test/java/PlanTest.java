/** Promises 12 to 20 and what a log may be: plans, small enough to be worked out by hand. */
public final class PlanTest {
    private static final int NONE = BuckTables.NONE;
    private static final int FAR = 10000000;
    private static final int SIZE = 100000;
    private static final Edges edges = new Edges();
    private static final Checks checks = edges.checks;

    private static BuckTables stem(int step, int length) {
        return Samples.length(step, length);
    }

    private static void plan(String name, BuckTables x, String logs, String fuel, long worth) {
        edges.plan(name, x, logs, fuel, worth);
    }

    private static void planOfRun(String name, BuckTables x, String logs, String fuel, long worth) {
        x.run();
        plan(name, x, logs, fuel, worth);
        checks.due(name + ": bound", worth, x.bound());
        checks.due(name + ": greatest", true, x.greatest());
    }

    private static void nothingToCut() {
        BuckTables x = new BuckTables(10);
        checks.due("run of nothing", 0, x.run());
        planOfRun("nothing", x, "", "", 0);
        x.product(10, 10, 0, 0, 5);
        planOfRun("no points", x, "", "", 0);
        x.stem(0, 9, 0);
        planOfRun("no length", x, "", "", 0);
        x.stem(9, 9, 0);
        planOfRun("no whole step", x, "", "", 0);
        x.stem(29, 9, 0);
        planOfRun("two steps", x, "0:0+1=0(5) 0:1+1=0(5)", "", 10);
        BuckTables bare = stem(10, 30);
        checks.due("run without products", 0, bare.run());
        planOfRun("no products", bare, "", "0:0+3", 0);
        checks.due("priced without products", 1, bare.priced(10));
    }

    private static void lengths() {
        BuckTables x = stem(10, 40);
        x.product(11, 29, 0, 0, 5);
        planOfRun("only two steps are from 11 to 29", x, "0:0+2=0(10) 0:2+2=0(10)", "", 20);
        BuckTables exact = stem(10, 50);
        exact.product(20, 30, 0, 0, 5);
        planOfRun("edges belong", exact, "0:0+3=0(15) 0:3+2=0(10)", "", 25);
        BuckTables none = stem(10, 50);
        none.product(21, 29, 0, 0, 5);
        planOfRun("no whole number of steps fits", none, "", "0:0+5", 0);
        BuckTables longOnes = stem(10, 50);
        longOnes.product(FAR, FAR, 0, 0, 5);
        planOfRun("too long", longOnes, "", "0:0+5", 0);
    }

    private static void tops() {
        BuckTables x = new BuckTables(10);
        x.stem(0, 300, 0);
        x.stem(20, 200, 0);
        x.stem(41, 100, 0);
        x.product(10, 10, 200, 0, 5);
        planOfRun("top just enough at the point's place", x, "0:0+1=0(5) 0:1+1=0(5)", "0:2+2", 10);
        x.margin(1);
        planOfRun("margin is taken off the top", x, "", "0:0+4", 0);
        BuckTables y = new BuckTables(10);
        y.stem(0, 300, 0);
        y.stem(20, 201, 0);
        y.stem(41, 100, 0);
        y.product(10, 10, 200, SIZE, 5);
        y.margin(1);
        planOfRun("margin just fits", y, "0:0+1=0(5) 0:1+1=0(5)", "0:2+2", 10);
        y.margin(SIZE);
        y.product(10, 10, 0, SIZE, 5);
        planOfRun("margin beyond the top", y, "", "0:0+4", 0);
    }

    private static void sweeps() {
        BuckTables x = new BuckTables(10);
        x.stem(0, 300, 0);
        x.stem(20, 300, 7);
        x.stem(30, 300, 0);
        x.stem(60, 300, 0);
        x.product(10, 10, 0, 6, 5);
        planOfRun("the point at 20 spoils what it touches", x, "0:3+1=0(5) 0:4+1=0(5) 0:5+1=0(5)", "0:0+3", 15);
        x.product(10, 10, 0, 7, 4);
        planOfRun("sweep just allowed", x, "0:0+1=1(4) 0:1+1=1(4) 0:2+1=1(4) 0:3+1=0(5) 0:4+1=0(5) 0:5+1=0(5)", "", 27);
        x.margin(1);
        planOfRun("margin is put on the sweep", x, "0:3+1=0(5) 0:4+1=0(5) 0:5+1=0(5)", "0:0+3", 15);
        x.margin(6);
        planOfRun("margin alone just allowed", x, "0:3+1=0(5) 0:4+1=0(5) 0:5+1=0(5)", "0:0+3", 15);
        x.margin(7);
        planOfRun("margin alone is too much for one", x, "0:3+1=1(4) 0:4+1=1(4) 0:5+1=1(4)", "0:0+3", 12);
        BuckTables y = new BuckTables(10);
        y.stem(0, 300, 9);
        y.stem(25, 300, 0);
        y.stem(50, 300, 0);
        y.product(10, 10, 0, 8, 5);
        planOfRun("the last point not behind the begin counts", y, "0:3+1=0(5) 0:4+1=0(5)", "0:0+3", 10);
    }

    private static void faultsAndCuts() {
        BuckTables x = stem(10, 60);
        x.product(10, 60, 0, 0, 5);
        x.fault(20, 40, 3);
        planOfRun("a fault that is not barred", x, "0:0+6=0(30)", "", 30);
        x.bars(0, 2);
        planOfRun("another kind barred", x, "0:0+6=0(30)", "", 30);
        x.bars(0, 3);
        planOfRun("a log may touch a fault's ends", x, "0:0+2=0(10) 0:4+2=0(10)", "0:2+2", 20);
        x.fault(19, 41, 3);
        planOfRun("one part into it is too much", x, "0:0+1=0(5) 0:5+1=0(5)", "0:1+4", 10);
        BuckTables y = stem(10, 60);
        y.product(20, 60, 0, 0, 5);
        y.force(30);
        planOfRun("forced cut", y, "0:0+3=0(15) 0:3+3=0(15)", "", 30);
        y.force(10);
        planOfRun("fuel goes on over a forced cut", y, "0:1+2=0(10) 0:3+3=0(15)", "0:0+1", 25);
        y.force(50);
        y.force(40);
        planOfRun("fuel rows are as long as can be", y, "0:1+2=0(10)", "0:0+1 0:3+3", 10);
    }

    private static void losses() {
        BuckTables x = stem(10, 70);
        x.product(20, 20, 0, 0, 5);
        planOfRun("loss 0", x, "0:0+2=0(10) 0:2+2=0(10) 0:4+2=0(10)", "0:6+1", 30);
        x.saw(1);
        planOfRun("loss 1", x, "0:0+2=0(10) 0:3+2=0(10)", "0:6+1", 20);
        x.saw(2);
        planOfRun("loss 2: those that there are", x, "0:0+2=0(10) 0:4+2=0(10)", "", 20);
        x.saw(3);
        planOfRun("loss 3: nothing behind the end", x, "0:0+2=0(10) 0:5+2=0(10)", "", 20);
    }

    private static void ties() {
        BuckTables x = stem(10, 60);
        x.product(10, 40, 0, 0, 5);
        planOfRun("fewest logs, the longer one first", x, "0:0+4=0(20) 0:4+2=0(10)", "", 30);
        x.product(10, 40, 0, 0, 5);
        planOfRun("of the same length the lesser product", x, "0:0+4=0(20) 0:4+2=0(10)", "", 30);
        BuckTables y = stem(10, 30);
        y.product(20, 20, 0, 0, 3);
        y.product(30, 30, 0, 0, 2);
        planOfRun("the longer log, though of the greater product", y, "0:0+3=1(6)", "", 6);
        BuckTables z = stem(10, 30);
        z.product(20, 20, 0, 0, 3);
        planOfRun("fuel last", z, "0:0+2=0(6)", "0:2+1", 6);
        BuckTables w = stem(10, 30);
        w.product(10, 30, 0, 0, 0);
        planOfRun("a log worth nothing is a log too many", w, "", "0:0+3", 0);
        BuckTables v = stem(10, 40);
        v.product(40, 40, 0, 0, 2);
        v.product(10, 10, 0, 0, 8);
        v.force(10);
        v.product(30, 30, 0, 0, 7);
        planOfRun("worth goes before few logs", v, "0:0+1=1(8) 0:1+1=1(8) 0:2+1=1(8) 0:3+1=1(8)", "", 32);
    }

    private static void wishes() {
        BuckTables x = stem(10, 20);
        x.stems();
        x.stem(0, 9, 0);
        x.stem(20, 9, 0);
        x.product(10, 10, 0, 0, 1);
        x.product(20, 20, 0, 0, 1);
        x.wish(1, 1, 3);
        x.wish(0, 6, 1000);
        x.wish(0, 2, 1000);
        planOfRun("a wish of one day", x, "0:0+2=1(2) 1:0+2=1(5)", "", 7);
        x.wish(0, 1, 2);
        planOfRun("a wish for each log", x, "0:0+2=1(2) 1:0+1=0(3) 1:1+1=0(3)", "", 8);
        x.wish(0, 1, 1);
        planOfRun("a wish made less", x, "0:0+2=1(2) 1:0+2=1(5)", "", 7);
        BuckTables most = new BuckTables(1);
        for (int s = 0; s < 6; s++) {
            if (s > 0) {
                most.stems();
            }
            most.stem(0, 1, 0);
            most.stem(80, 1, 0);
        }
        most.product(1, 1, 0, 0, SIZE);
        for (int day = 0; day < 7; day++) {
            most.wish(0, day, SIZE);
        }
        checks.due("most logs", 480, most.run());
        checks.due("greatest worth", 480L * 2 * SIZE, most.worth());
        checks.due("last log's stem", 5, most.log(479, 0));
        most.limit(0, 0);
        checks.due("no logs are just the limit", 2, most.priced(10));
        checks.due("price that makes all FUEL at once", 480L * 1024, most.price(0, 0));
    }

    private static BuckTables twoKinds() {
        BuckTables x = stem(1, 10);
        x.product(2, 2, 0, 0, 5);
        x.product(2, 2, 0, 0, 3);
        return x;
    }

    private static void pricedRounds() {
        BuckTables x = twoKinds();
        x.limit(0, 5);
        checks.due("limits hold at once", 1, x.priced(10));
        plan("limits hold at once", x, "0:0+2=0(10) 0:2+2=0(10) 0:4+2=0(10) 0:6+2=0(10) 0:8+2=0(10)", "", 50);
        checks.due("limits hold at once: bound", 50, x.bound());
        checks.due("limits hold at once: greatest", true, x.greatest());
        x.limit(0, 2);
        long[] prices = {0, 3072, 2048, 1366, 854, 446, 106, 0, 384, 158};
        for (int rounds = 2; rounds <= 10; rounds++) {
            checks.due("rounds " + rounds, rounds, x.priced(rounds));
            checks.due("price in round " + rounds, prices[rounds - 1], x.price(0, 0));
            checks.due("price without a limit", 0, x.price(1, 0));
            plan("round " + rounds, x, "0:0+2=1(6) 0:2+2=1(6) 0:4+2=1(6) 0:6+2=1(6) 0:8+2=1(6)", "", 30);
            checks.due("bound of rounds", 50, x.bound());
            checks.due("greatest of rounds", false, x.greatest());
            checks.due("logs of product 0", 0, x.price(0, 1));
            checks.due("logs of product 1", 5, x.price(1, 1));
        }
        checks.due("one round", 1, x.priced(1));
        plan("what is too much is fuel", x, "0:0+2=0(10) 0:2+2=0(10)", "0:4+6", 20);
        checks.due("one round: bound", 50, x.bound());
        checks.due("one round: greatest", false, x.greatest());
        checks.due("one round: logs", 2, x.price(0, 1));
        checks.due("one round: limit", 2, x.price(0, 2));
        checks.due("one round: no limit", NONE, x.price(1, 2));
        x.run();
        checks.due("run leaves limits aside", 50, x.worth());
        checks.due("run: bound", 50, x.bound());
        checks.due("run: greatest", true, x.greatest());
        checks.due("run: logs beyond the limit", 5, x.price(0, 1));
        checks.due("run: limit", 2, x.price(0, 2));
        x.priced(10);
        x.run();
        checks.due("run: price", 0, x.price(0, 0));
    }

    private static void pricesThatSettle() {
        BuckTables x = stem(1, 1);
        x.stems();
        x.stem(0, 9, 0);
        x.stem(1, 9, 0);
        x.product(1, 1, 0, 0, 0);
        x.wish(0, 0, 5000);
        x.wish(0, 1, 2000);
        x.limit(0, 1);
        checks.due("a price that leaves just the limit ends it", 5, x.priced(10));
        plan("settled", x, "0:0+1=0(5000)", "1:0+1", 5000);
        checks.due("settled: price", 1024 + 512 + 341 + 256, x.price(0, 0));
        checks.due("settled: bound", 5000, x.bound());
        checks.due("settled: greatest", true, x.greatest());
        checks.due("not settled in four", 4, x.priced(4));
        plan("not settled", x, "0:0+1=0(5000)", "1:0+1", 5000);
        checks.due("not settled: bound", 7000 - (1024 + 512 + 341), x.bound());
        checks.due("not settled: greatest", false, x.greatest());
    }

    /** Prices by round are 0 0, 1024 0, 512 512, 171 171, 171 0; the plans of rounds 4 and 5 are worth 450. */
    private static void earliestOfSeveral() {
        BuckTables x = stem(1, 3);
        x.product(1, 2, 0, 0, 200);
        x.product(1, 2, 0, 0, 50);
        x.product(1, 1, 0, 0, 50);
        x.limit(0, 1);
        x.limit(1, 1);
        checks.due("earliest: two rounds", 2, x.priced(2));
        plan("the last round's, less what is too much", x, "0:0+2=1(100)", "0:2+1", 100);
        checks.due("earliest: three rounds", 3, x.priced(3));
        plan("the first in which limits hold", x, "0:0+1=2(50) 0:1+1=2(50) 0:2+1=2(50)", "", 150);
        checks.due("earliest: price 1 of round 3", 512, x.price(1, 0));
        checks.due("earliest: rounds", 5, x.priced(10));
        plan("the earlier of two that are worth as much", x, "0:0+2=0(400) 0:2+1=2(50)", "", 450);
        checks.due("earliest: price 0", 171, x.price(0, 0));
        checks.due("earliest: price 1", 0, x.price(1, 0));
        checks.due("earliest: logs of the plan, not of the last round", 0, x.price(1, 1));
        checks.due("earliest: bound", 450, x.bound());
        checks.due("earliest: greatest", true, x.greatest());
    }

    private static void burntLogs() {
        BuckTables x = stem(1, 9);
        x.product(2, 2, 0, 0, 5);
        x.product(1, 1, 0, 0, 4);
        x.saw(1);
        x.force(2);
        x.force(4);
        x.force(5);
        planOfRun("before limits", x, "0:0+2=0(10) 0:3+1=1(4) 0:5+2=0(10) 0:8+1=1(4)", "", 28);
        x.limit(0, 1);
        x.priced(1);
        plan("lost steps stay lost", x, "0:0+2=0(10) 0:3+1=1(4) 0:8+1=1(4)", "0:5+2", 18);
        x.limit(1, 0);
        x.priced(1);
        plan("several products", x, "0:0+2=0(10)", "0:3+1 0:5+2 0:8+1", 10);
        x.saw(0);
        x.limit(0, 0);
        x.priced(1);
        plan("adjacent fuel is one row", x, "", "0:0+9", 0);
        BuckTables y = stem(1, 2);
        y.stems();
        y.stem(0, 9, 0);
        y.stem(2, 9, 0);
        y.product(1, 1, 0, 0, 1);
        y.limit(0, 3);
        y.priced(1);
        plan("the greatest stem's last is given up first", y, "0:0+1=0(1) 0:1+1=0(1) 1:0+1=0(1)", "1:1+1", 3);
        y.limit(0, 1);
        y.priced(1);
        plan("fuel rows are of one stem", y, "0:0+1=0(1)", "0:1+1 1:0+2", 1);
    }

    private static void overrides() {
        BuckTables x = twoKinds();
        x.run();
        for (int at : new int[] {0, -1, 11, FAR, Integer.MIN_VALUE, Integer.MAX_VALUE}) {
            checks.fails("override " + at, Checks.ARGUMENT, () -> x.override(at));
        }
        checks.due("the plan stands", 50, x.worth());
        checks.due("a cut between logs", 0, x.override(2));
        checks.due("a cut in a log", 10, x.override(3));
        plan("overridden", x, "0:0+2=0(10) 0:3+2=0(10) 0:5+2=0(10) 0:7+2=0(10)", "0:2+1 0:9+1", 40);
        checks.due("overridden: bound", 40, x.bound());
        checks.fails("override again", Checks.ARGUMENT, () -> x.override(3));
        checks.due("force what was overridden", false, x.force(3));
        checks.due("the plan stands still", 40, x.worth());
        x.force(9);
        checks.fails("override of what was told", Checks.STATE, () -> x.override(4));
        BuckTables y = new BuckTables(10);
        y.stem(0, 1, 0);
        y.stem(105, 1, 0);
        y.product(20, 20, 0, 0, 5);
        y.run();
        checks.fails("override inside a step", Checks.ARGUMENT, () -> y.override(15));
        checks.due("override at an end", 0, y.override(100));
    }

    private static void overridesOfPriced() {
        BuckTables x = twoKinds();
        x.limit(0, 2);
        x.priced(1);
        checks.due("override as priced(1)", 0, x.override(2));
        plan("as priced(1)", x, "0:0+2=0(10) 0:2+2=0(10)", "0:4+6", 20);
        x.priced(3);
        checks.due("override as priced(3)", 6, x.override(5));
        checks.due("price of round 3", 0 + 2 * 1024 - 2 * 512, x.price(0, 0));
        checks.due("worth of round 3", 24, x.worth());
        x.run();
        x.override(10);
        checks.due("override as run", 40, x.worth());
        BuckTables y = stem(1, 4);
        y.product(1, 4, 0, 0, 5);
        y.limit(0, 1);
        y.priced(1);
        checks.due("one log holds", 20, y.worth());
        checks.due("two logs are one too many", 5, y.override(3));
        BuckTables more = stem(1, 4);
        more.product(1, 3, 0, 0, 5);
        more.product(1, 1, 0, 0, 4);
        more.limit(0, 1);
        more.priced(2);
        checks.due("before", 16, more.worth());
        more.priced(1);
        checks.due("worth of what is left of round 1", 15, more.worth());
        BuckTables latest = stem(1, 4);
        latest.product(4, 4, 0, 0, 5);
        latest.stems();
        latest.stem(0, 1, 0);
        latest.stem(3, 1, 0);
        latest.run();
        checks.fails("only the latest stem's ends", Checks.ARGUMENT, () -> latest.override(4));
        checks.due("a cut of the latest stem alone", 0, latest.override(2));
    }

    /** A forced cut can make a priced plan worth more: its rounds go another way. */
    private static void overrideForMore() {
        BuckTables x = stem(1, 4);
        x.product(2, 2, 0, 0, 5);
        x.product(1, 1, 0, 0, 4);
        x.product(4, 4, 0, 0, 6);
        x.limit(2, 0);
        x.priced(1);
        checks.due("the one log is given up", 0, x.worth());
        checks.due("a cut makes it worth more", -20, x.override(2));
        plan("more", x, "0:0+2=0(10) 0:2+2=0(10)", "", 20);
    }

    public static void main(String[] args) {
        nothingToCut();
        lengths();
        tops();
        sweeps();
        faultsAndCuts();
        losses();
        ties();
        wishes();
        pricedRounds();
        pricesThatSettle();
        earliestOfSeveral();
        burntLogs();
        overrides();
        overridesOfPriced();
        overrideForMore();
        checks.end();
    }
}
