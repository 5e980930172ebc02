import java.util.function.Supplier;

/** Promises 12 to 20: a test for each sentence that names an edge, a wrong number, or what there is not. */
public final class AskTest {
    private static final int NONE = BuckTables.NONE;
    private static final int FAR = Samples.FAR;
    private static final int SIZE = Samples.SIZE;
    private static final int LOW = Samples.LOW;
    private static final int HIGH = Samples.HIGH;
    private static final Supplier<BuckTables> RICH = Samples::rich;
    private static final Edges edges = new Edges();
    private static final Checks checks = edges.checks;

    /** Five logs of product 0 in ten steps; those of product 1 are worth less. */
    private static BuckTables twoKinds() {
        BuckTables x = Samples.stem(10);
        x.product(20, 20, 0, 0, 5);
        x.product(20, 20, 0, 0, 3);
        return x;
    }

    // Promise 12

    /** "how many logs (0, if there are no products or steps)" */
    private static void runOfNothing() {
        checks.due("12: neither products nor steps", 0, new BuckTables(10).run());
        checks.due("12: no products", 0, Samples.stem(3).run());
        BuckTables x = new BuckTables(10);
        x.product(1, FAR, 0, SIZE, 1);
        checks.due("12: no points", 0, x.run());
        x.stem(0, 500, 0);
        checks.due("12: one point", 0, x.run());
        x.stem(9, 500, 0);
        checks.due("12: no whole step", 0, x.run());
        edges.plan("12: no whole step", x, "", "", 0);
        x.stem(10, 500, 0);
        checks.due("12: one step", 1, x.run());
        x.stems();
        checks.due("12: a stem without steps beside it", 1, x.run());
        edges.plan("12: one step", x, "0:0+1=0(1)", "", 1);
    }

    private static void allOfNothing(String name, BuckTables x, int fuelRows) {
        for (int rounds = 0; rounds <= 10; rounds++) {
            String made = name + (rounds == 0 ? ", run()" : ", priced(" + rounds + ")");
            checks.due(made, rounds == 0 ? 0 : 1, rounds == 0 ? x.run() : x.priced(rounds));
            checks.due(made + ": worth", 0, x.worth());
            checks.due(made + ": bound", 0, x.bound());
            checks.due(made + ": greatest", true, x.greatest());
            checks.due(made + ": logs", 0, x.log(NONE, 0));
            checks.due(made + ": fuel", fuelRows, x.fuel(NONE, 0));
            checks.fails(made + ": log 0", Checks.INDEX, () -> x.log(0, 0));
            checks.fails(made + ": the fuel behind", Checks.INDEX, () -> x.fuel(fuelRows, 0));
        }
    }

    /** Every answer of a plan for no products, for no steps, and for neither. */
    private static void answersForNothing() {
        BuckTables neither = new BuckTables(10);
        allOfNothing("neither products nor steps", neither, 0);
        checks.fails("neither: price", Checks.INDEX, () -> neither.price(0, 0));
        checks.fails("neither: override", Checks.ARGUMENT, () -> neither.override(10));
        BuckTables noProducts = Samples.stem(3);
        allOfNothing("no products", noProducts, 1);
        checks.fails("no products: price", Checks.INDEX, () -> noProducts.price(0, 0));
        checks.due("no products: override", 0, noProducts.override(10));
        allOfNothing("no products, a cut", noProducts, 1);
        BuckTables noSteps = new BuckTables(10);
        noSteps.product(10, 10, 0, 0, 1);
        noSteps.limit(0, 0);
        allOfNothing("no steps", noSteps, 0);
        checks.due("no steps: price", 0, noSteps.price(0, 0));
        checks.due("no steps: logs of the product", 0, noSteps.price(0, 1));
        checks.due("no steps: its limit", 0, noSteps.price(0, 2));
        checks.fails("no steps: override", Checks.ARGUMENT, () -> noSteps.override(10));
        for (int s = 1; s < 6; s++) {
            noSteps.stems();
        }
        allOfNothing("six stems without steps", noSteps, 0);
    }

    /** "how many logs": of all stems, as many as there can be. */
    private static void runOfAllThereCanBe() {
        BuckTables x = new BuckTables(1);
        for (int s = 0; s < 6; s++) {
            if (s > 0) {
                x.stems();
            }
            Samples.addStem(x, 80);
        }
        x.product(1, 1, 0, 0, SIZE);
        for (int day = 0; day < 7; day++) {
            x.wish(0, day, SIZE);
        }
        checks.due("12: 480 logs", 480, x.run());
        checks.due("14: their worth", 480L * 2 * SIZE, x.worth());
        checks.due("15: the last one's stem", 5, x.log(479, 0));
        checks.due("15: the last one's first step", 79, x.log(479, 1));
        checks.fails("15: no log 480", Checks.INDEX, () -> x.log(480, 0));
        checks.due("16: no fuel", 0, x.fuel(NONE, 0));
        x.limit(0, 0);
        checks.due("13: all too many", 2, x.priced(10));
        checks.due("16: six rows, not one", 6, x.fuel(NONE, 0));
        checks.due("16: the last one's stem", 5, x.fuel(5, 0));
        checks.due("16: the last one's steps", 80, x.fuel(5, 2));
        checks.due("18: the price", 480L * 1024, x.price(0, 0));
    }

    /** As many rows of FUEL as there can be: every second step. */
    private static void fuelOfAllThereCanBe() {
        BuckTables x = new BuckTables(10);
        x.product(10, 10, 0, 0, 1);
        x.bars(0, 0);
        for (int s = 0; s < 6; s++) {
            if (s > 0) {
                x.stems();
            }
            Samples.addStem(x, 400);
            for (int i = 0; i < 20; i++) {
                x.fault(20 * i + 10, 20 * i + 20, 0);
            }
        }
        checks.due("12: every second step", 120, x.run());
        checks.due("16: rows between them", 120, x.fuel(NONE, 0));
        checks.due("16: the last one's first step", 39, x.fuel(119, 1));
        checks.due("16: the last one's steps", 1, x.fuel(119, 2));
        checks.fails("16: no row 120", Checks.INDEX, () -> x.fuel(120, 0));
    }

    /** "The BEST plan, limits aside" */
    private static void runLeavesLimitsAside() {
        BuckTables x = twoKinds();
        x.limit(0, 0);
        checks.due("12: as if there were no limit", 5, x.run());
        checks.due("12: worth", 50, x.worth());
        checks.due("12: again", 5, x.run());
        x.priced(2);
        checks.due("12: behind priced()", 5, x.run());
        checks.due("12: worth behind priced()", 50, x.worth());
    }

    // Promise 13

    /** "rounds are not 1 .. 10" */
    private static void rangeOfRounds() {
        for (int rounds : new int[] {0, -1, 11, LOW, HIGH}) {
            edges.thrown("13: rounds " + rounds, Checks.ARGUMENT, RICH, x -> x.priced(rounds));
        }
        BuckTables x = twoKinds();
        x.limit(0, 2);
        checks.due("13: one round", 1, x.priced(1));
        checks.due("13: ten rounds", 10, x.priced(10));
    }

    /** "how many there were (one, if all limits hold at once)" */
    private static void oneRound() {
        checks.due("13: nothing at all", 1, new BuckTables(10).priced(10));
        checks.due("13: no products", 1, Samples.stem(3).priced(10));
        BuckTables x = twoKinds();
        checks.due("13: no limits", 1, x.priced(10));
        edges.plan("13: no limits", x, "0:0+2=0(10) 0:2+2=0(10) 0:4+2=0(10) 0:6+2=0(10) 0:8+2=0(10)", "", 50);
        x.limit(0, 5);
        checks.due("13: just the limit", 1, x.priced(10));
        x.limit(1, 0);
        checks.due("13: none of the other", 1, x.priced(10));
        x.limit(0, 4);
        checks.due("13: one too many", 10, x.priced(10));
        BuckTables none = new BuckTables(10);
        none.product(10, 10, 0, 0, 1);
        none.limit(0, 0);
        checks.due("13: no steps, a limit of 0", 1, none.priced(10));
        checks.due("13: no steps, greatest", true, none.greatest());
    }

    // Promise 14

    /** "What the plan is worth. IllegalStateException." */
    private static void worthOfPlan() {
        edges.thrownWithoutPlan("14: no plan", RICH, BuckTables::worth);
        BuckTables x = twoKinds();
        x.run();
        checks.due("14: of run()", 50, x.worth());
        x.limit(0, 2);
        checks.fails("14: told since", Checks.STATE, x::worth);
        x.priced(1);
        checks.due("14: of what is left", 20, x.worth());
        x.priced(2);
        checks.due("14: truly, prices aside", 30, x.worth());
        BuckTables nothing = new BuckTables(10);
        nothing.run();
        checks.due("14: of nothing", 0, nothing.worth());
    }

    // Promise 15

    /** "IllegalStateException (first)" */
    private static void logWithoutPlan() {
        for (int k : new int[] {NONE, 0, -2, HIGH}) {
            for (int what : new int[] {0, 4, 5, -1}) {
                edges.thrownWithoutPlan("15: no plan, log " + k + " " + what, RICH, x -> x.log(k, what));
            }
        }
    }

    /** "IndexOutOfBoundsException", also with another what. */
    private static void noSuchLog() {
        int logs = logsOf(RICH);
        for (int k : new int[] {-2, 480, LOW, HIGH}) {
            for (int what : new int[] {0, 4, 5, -1}) {
                edges.thrownOfPlan("15: log " + k + " " + what, Checks.INDEX, RICH, x -> x.log(k, what));
            }
        }
        BuckTables x = Samples.rich();
        x.run();
        for (int what = 0; what < 5; what++) {
            int each = what;
            checks.due("15: the last log, what " + what, true, x.log(logs - 1, what) >= 0);
            checks.fails("15: the one behind it, what " + what, Checks.INDEX, () -> x.log(logs, each));
        }
        checks.fails("15: the one behind it, another what", Checks.INDEX, () -> x.log(logs, 5));
        BuckTables none = Samples.stem(2);
        none.run();
        checks.fails("15: log 0 of none", Checks.INDEX, () -> none.log(0, 0));
        checks.due("15: how many, of none", 0, none.log(NONE, 0));
    }

    private static int logsOf(Supplier<BuckTables> maker) {
        BuckTables x = maker.get();
        return x.run();
    }

    /** "another what" */
    private static void otherWhatOfLog() {
        for (int what : new int[] {-1, 5, LOW, HIGH}) {
            edges.thrownOfPlan("15: log 0, what " + what, Checks.ARGUMENT, RICH, x -> x.log(0, what));
        }
    }

    /** "(k = NONE: how many there are, what being looked at all the same)" */
    private static void howManyLogs() {
        for (int what : new int[] {-1, 5, LOW, HIGH}) {
            edges.thrownOfPlan("15: how many, what " + what, Checks.ARGUMENT, RICH, x -> x.log(NONE, what));
        }
        BuckTables x = twoKinds();
        x.run();
        for (int what = 0; what < 5; what++) {
            checks.due("15: how many, what " + what, 5, x.log(NONE, what));
        }
        x.limit(0, 2);
        x.priced(1);
        checks.due("15: how many are left", 2, x.log(NONE, 0));
        checks.fails("15: no third one", Checks.INDEX, () -> x.log(2, 0));
    }

    /** "its stem (what = 0), first step (1), steps (2), product (3), what it is worth (4; truly, prices aside)" */
    private static void partsOfLog() {
        BuckTables x = Samples.stem(3);
        x.stems();
        Samples.addStem(x, 70);
        x.product(30, 30, 0, 0, 7);
        x.product(40, 40, 0, 0, 2000);
        x.wish(1, 1, 6);
        x.limit(1, 0);
        x.run();
        int[][] want = {{0, 0, 3, 0, 21}, {1, 0, 4, 1, 8006}, {1, 4, 3, 0, 21}};
        for (int k = 0; k < 3; k++) {
            for (int what = 0; what < 5; what++) {
                checks.due("15: log " + k + ", what " + what, want[k][what], x.log(k, what));
            }
        }
        BuckTables priced = Samples.stem(1);
        priced.stems();
        Samples.addStem(priced, 10);
        priced.product(10, 10, 0, 0, 1024);
        priced.wish(0, 0, 1);
        priced.limit(0, 1);
        priced.priced(2);
        checks.due("15: a price there was", 1024, priced.price(0, 0));
        checks.due("15: truly, prices aside", 1025, priced.log(0, 4));
    }

    // Promise 16

    /** "IllegalStateException (first)" */
    private static void fuelWithoutPlan() {
        for (int k : new int[] {NONE, 0, -2, HIGH}) {
            for (int what : new int[] {0, 2, 3, -1}) {
                edges.thrownWithoutPlan("16: no plan, fuel " + k + " " + what, RICH, x -> x.fuel(k, what));
            }
        }
    }

    /** "IndexOutOfBoundsException", also with another what. */
    private static void noSuchFuel() {
        for (int k : new int[] {-2, 240, LOW, HIGH}) {
            for (int what : new int[] {0, 2, 3, -1}) {
                edges.thrownOfPlan("16: fuel " + k + " " + what, Checks.INDEX, RICH, x -> x.fuel(k, what));
            }
        }
        BuckTables x = Samples.stem(3);
        x.run();
        for (int what = 0; what < 3; what++) {
            int each = what;
            checks.due("16: the one row, what " + what, what == 2 ? 3 : 0, x.fuel(0, what));
            checks.fails("16: the one behind it, what " + what, Checks.INDEX, () -> x.fuel(1, each));
        }
        checks.fails("16: the one behind it, another what", Checks.INDEX, () -> x.fuel(1, 3));
        BuckTables none = twoKinds();
        none.run();
        checks.fails("16: row 0 of none", Checks.INDEX, () -> none.fuel(0, 0));
        checks.due("16: how many, of none", 0, none.fuel(NONE, 0));
    }

    /** "another what", with k = NONE too. */
    private static void otherWhatOfFuel() {
        Supplier<BuckTables> withFuel = () -> Samples.stem(3);
        for (int what : new int[] {-1, 3, 4, LOW, HIGH}) {
            edges.thrownOfPlan("16: fuel 0, what " + what, Checks.ARGUMENT, withFuel, x -> x.fuel(0, what));
            edges.thrownOfPlan("16: how many, what " + what, Checks.ARGUMENT, withFuel, x -> x.fuel(NONE, what));
        }
        BuckTables x = Samples.stem(3);
        x.run();
        for (int what = 0; what < 3; what++) {
            checks.due("16: how many, what " + what, 1, x.fuel(NONE, what));
        }
    }

    /** "The k-th row of FUEL steps of the plan, each as long as can be" */
    private static void rowsOfFuel() {
        BuckTables x = Samples.stem(8);
        x.product(20, 20, 0, 0, 1);
        x.force(10);
        x.force(30);
        x.force(40);
        x.force(50);
        x.force(60);
        x.force(70);
        edges.planOfRun("16: over forced cuts", x, "0:1+2=0(2)", "0:0+1 0:3+5", 2);
        x.stems();
        Samples.addStem(x, 10);
        x.stems();
        x.stems();
        Samples.addStem(x, 30);
        edges.planOfRun("16: not over a stem's end", x, "0:1+2=0(2) 3:0+2=0(2)", "0:0+1 0:3+5 1:0+1 3:2+1", 4);
        BuckTables full = Samples.stem(80);
        full.stems();
        Samples.addStem(full, 800);
        edges.planOfRun("16: two full stems", full, "", "0:0+80 1:0+80", 0);
    }

    // Promise 17

    /** "BOUND of the latest priced(), or, if run() was later, what that is worth. IllegalStateException." */
    private static void boundOfLatest() {
        edges.thrownWithoutPlan("17: no plan", RICH, BuckTables::bound);
        BuckTables x = twoKinds();
        x.limit(0, 2);
        x.run();
        checks.due("17: behind run()", 50, x.bound());
        x.priced(2);
        checks.due("17: behind priced()", 50, x.bound());
        checks.due("17: above the plan's worth", 30, x.worth());
        x.override(10);
        checks.due("17: behind override() of priced()", 40, x.bound());
        x.run();
        checks.due("17: run() was later", 40, x.bound());
        x.limit(0, 1);
        checks.fails("17: told since", Checks.STATE, x::bound);
        BuckTables y = Samples.stem(1);
        y.stems();
        Samples.addStem(y, 10);
        y.product(10, 10, 0, 0, 2000);
        y.limit(0, 1);
        y.priced(2);
        checks.due("17: 2 * 976 + 1024", 2976, y.bound());
        y.run();
        checks.due("17: run() was later than a lesser BOUND", 4000, y.bound());
        y.priced(2);
        checks.due("17: priced() was later", 2976, y.bound());
        BuckTables nothing = new BuckTables(10);
        nothing.priced(1);
        checks.due("17: of nothing", 0, nothing.bound());
    }

    // Promise 18

    /** "IllegalStateException (first)" */
    private static void priceWithoutPlan() {
        for (int product : new int[] {0, 2, 3, -1}) {
            for (int part : new int[] {0, 2, 3, -1}) {
                edges.thrownWithoutPlan("18: no plan, price " + product + " " + part, RICH, x -> x.price(product, part));
            }
        }
    }

    /** "IndexOutOfBoundsException: also of part" */
    private static void noSuchPrice() {
        for (int product : new int[] {-1, 3, 8, LOW, HIGH}) {
            for (int part : new int[] {0, 2, 3}) {
                edges.thrownOfPlan("18: product " + product + " " + part, Checks.INDEX, RICH, x -> x.price(product, part));
            }
        }
        for (int part : new int[] {-1, 3, LOW, HIGH}) {
            edges.thrownOfPlan("18: part " + part, Checks.INDEX, RICH, x -> x.price(0, part));
        }
        BuckTables none = Samples.stem(1);
        none.run();
        checks.fails("18: no products", Checks.INDEX, () -> none.price(0, 0));
        BuckTables full = Samples.fullOfProducts();
        full.run();
        checks.due("18: product 7", NONE, full.price(7, 2));
        checks.fails("18: product 8 of eight", Checks.INDEX, () -> full.price(8, 2));
    }

    /** "its price in the last round of priced(), with which that round's plan was made (part = 0; 0 behind run())" */
    private static void priceOfLastRound() {
        BuckTables x = twoKinds();
        x.limit(0, 2);
        long[] prices = {0, 3072, 2048, 1366, 854, 446, 106, 0, 384, 158};
        for (int rounds = 1; rounds <= 10; rounds++) {
            x.priced(rounds);
            checks.due("18: price of round " + rounds, prices[rounds - 1], x.price(0, 0));
            checks.due("18: no limit, no price", 0, x.price(1, 0));
        }
        x.run();
        checks.due("18: behind run()", 0, x.price(0, 0));
        BuckTables ended = Samples.stem(1);
        ended.product(10, 10, 0, 0, 1);
        ended.limit(0, 0);
        checks.due("18: two of ten rounds", 2, ended.priced(10));
        checks.due("18: the last round there was", 1024, ended.price(0, 0));
    }

    /** "logs of it in the plan (1)" */
    private static void logsOfProduct() {
        BuckTables x = twoKinds();
        x.limit(0, 2);
        x.run();
        checks.due("18: logs of 0 behind run()", 5, x.price(0, 1));
        checks.due("18: logs of 1 behind run()", 0, x.price(1, 1));
        x.priced(1);
        checks.due("18: logs that are left", 2, x.price(0, 1));
        x.priced(2);
        checks.due("18: logs of 0 in round 2", 0, x.price(0, 1));
        checks.due("18: logs of 1 in round 2", 5, x.price(1, 1));
        x.priced(8);
        checks.due("18: of the plan, not of the last round", 0, x.price(0, 1));
    }

    /** "its LIMIT (2; NONE without)" */
    private static void limitOfProduct() {
        BuckTables x = twoKinds();
        x.run();
        checks.due("18: without", NONE, x.price(0, 2));
        for (int most : new int[] {0, 1, 1000}) {
            x.limit(0, most);
            x.run();
            checks.due("18: limit " + most, most, x.price(0, 2));
            x.priced(1);
            checks.due("18: limit behind priced() " + most, most, x.price(0, 2));
            checks.due("18: the other one without", NONE, x.price(1, 2));
        }
    }

    // Promise 19

    /** "IllegalStateException", before what is wrong with at. */
    private static void overrideWithoutPlan() {
        for (int at : new int[] {10, 0, 5, 70, 80, -1, FAR + 1, LOW, HIGH}) {
            edges.thrownWithoutPlan("19: no plan, at " + at, RICH, x -> x.override(at));
        }
    }

    /** "at is no end of a step of the stem, or was forced" */
    private static void overrideOfNoEnd() {
        for (int at : new int[] {0, 1, 9, 11, 69, 71, 77, 80, 130, 800, FAR, -1, -10, FAR + 1, FAR + 10, LOW, HIGH}) {
            edges.thrownOfPlan("19: no end at " + at, Checks.ARGUMENT, RICH, x -> x.override(at));
        }
        edges.thrownOfPlan("19: was forced", Checks.ARGUMENT, RICH, x -> x.override(70));
        Supplier<BuckTables> empty = () -> {
            BuckTables x = Samples.rich();
            x.stems();
            return x;
        };
        edges.thrownOfPlan("19: an end of the stem before", Checks.ARGUMENT, empty, x -> x.override(10));
        BuckTables x = twoKinds();
        x.run();
        checks.due("19: the first end", 10, x.override(10));
        checks.fails("19: a hand forced it", Checks.ARGUMENT, () -> x.override(10));
        checks.due("19: the last end", 0, x.override(100));
        checks.fails("19: behind the last end", Checks.ARGUMENT, () -> x.override(110));
        checks.due("19: the plan stands", 40, x.worth());
    }

    /** "A hand forces a cut of the latest stem" */
    private static void overrideForcesTheLatest() {
        BuckTables x = Samples.stem(2);
        x.product(20, 20, 0, 0, 5);
        x.stems();
        Samples.addStem(x, 20);
        x.run();
        checks.due("19: one of two logs", 10, x.override(10));
        edges.plan("19: that of the latest stem", x, "0:0+2=0(10)", "1:0+2", 10);
        checks.due("19: forced from now on", false, x.force(10));
        edges.planOfRun("19: in a later plan, too", x, "0:0+2=0(10)", "1:0+2", 10);
    }

    /** "the plan is made anew as the latest one was": by run(). */
    private static void overrideAsRun() {
        BuckTables x = twoKinds();
        x.limit(0, 0);
        x.priced(10);
        x.run();
        checks.due("19: by run(), limits aside", 10, x.override(50));
        edges.plan("19: by run()", x, "0:0+2=0(10) 0:2+2=0(10) 0:5+2=0(10) 0:7+2=0(10)", "0:4+1 0:9+1", 40);
        checks.due("19: bound of run()", 40, x.bound());
        checks.due("19: no price", 0, x.price(0, 0));
        checks.due("19: greatest of run()", true, x.greatest());
        checks.due("19: by run() once more", 0, x.override(100));
    }

    /** "or priced() with as many rounds as were told to it": not as many as there were. */
    private static void overrideAsPriced() {
        BuckTables x = Samples.stem(4);
        x.product(10, 40, 0, 0, 5);
        x.limit(0, 1);
        checks.due("19: one round of five", 1, x.priced(5));
        checks.due("19: worth", 20, x.worth());
        checks.due("19: no plan but that of no logs holds", 20, x.override(30));
        edges.plan("19: all FUEL", x, "", "0:0+4", 0);
        checks.due("19: the price of round 5", 0, x.price(0, 0));
        checks.due("19: bound", 20, x.bound());
        x.priced(1);
        checks.due("19: one round", 15, x.worth());
        checks.due("19: as priced(1)", 5, x.override(20));
        edges.plan("19: what is left of round 1", x, "0:0+2=0(10)", "0:2+2", 10);
        x.priced(4);
        checks.due("19: four rounds", 0, x.override(40));
        checks.due("19: the price of round 4", 2048 - 512 - 341, x.price(0, 0));
    }

    /** "how much less it is worth (below 0: more)" */
    private static void overrideForMore() {
        BuckTables x = Samples.stem(4);
        x.product(20, 20, 0, 0, 5);
        x.product(40, 40, 0, 0, 6);
        x.limit(1, 0);
        x.priced(1);
        checks.due("19: the one log is given up", 0, x.worth());
        checks.due("19: more", -20, x.override(20));
        edges.plan("19: more", x, "0:0+2=0(10) 0:2+2=0(10)", "", 20);
        checks.due("19: neither less nor more", 0, x.override(40));
        checks.due("19: less", 10, x.override(10));
    }

    // Promise 20

    /** "(behind run(): limits aside)" */
    private static void greatestBehindRun() {
        edges.thrownWithoutPlan("20: no plan", RICH, BuckTables::greatest);
        BuckTables x = twoKinds();
        x.limit(0, 0);
        x.run();
        checks.due("20: behind run()", true, x.greatest());
        x.priced(10);
        x.run();
        checks.due("20: behind run() behind priced()", true, x.greatest());
        BuckTables nothing = new BuckTables(10);
        nothing.run();
        checks.due("20: nothing is the greatest of nothing", true, nothing.greatest());
    }

    /** "it is worth (truly) just as much as BOUND" */
    private static void greatestBehindPriced() {
        BuckTables x = Samples.stem(1);
        x.stems();
        Samples.addStem(x, 10);
        x.product(10, 10, 0, 0, 0);
        x.wish(0, 0, 1025);
        x.wish(0, 1, 1024);
        x.limit(0, 1);
        x.priced(1);
        checks.due("20: what is left, below BOUND", false, x.greatest());
        x.priced(2);
        checks.due("20: just BOUND", true, x.greatest());
        x.wish(0, 1, 1025);
        checks.failsToo("20: told since", Checks.STATE, x::greatest);
        x.priced(2);
        checks.due("20: one below BOUND", 1026, x.bound());
        checks.due("20: its worth", 1025, x.worth());
        checks.due("20: one below BOUND is not the greatest", false, x.greatest());
    }

    private static void promises12To16() {
        runOfNothing();
        answersForNothing();
        runOfAllThereCanBe();
        fuelOfAllThereCanBe();
        runLeavesLimitsAside();
        rangeOfRounds();
        oneRound();
        worthOfPlan();
        logWithoutPlan();
        noSuchLog();
        otherWhatOfLog();
        howManyLogs();
        partsOfLog();
        fuelWithoutPlan();
        noSuchFuel();
        otherWhatOfFuel();
        rowsOfFuel();
    }

    private static void promises17To20() {
        boundOfLatest();
        priceWithoutPlan();
        noSuchPrice();
        priceOfLastRound();
        logsOfProduct();
        limitOfProduct();
        overrideWithoutPlan();
        overrideOfNoEnd();
        overrideForcesTheLatest();
        overrideAsRun();
        overrideAsPriced();
        overrideForMore();
        greatestBehindRun();
        greatestBehindPriced();
    }

    public static void main(String[] args) {
        promises12To16();
        promises17To20();
        checks.end();
    }
}
