import java.util.function.Supplier;

/** Promises 1 to 11: a test for each sentence that names a range, a refusal, an exception, or room. */
public final class TellTest {
    private static final int NONE = BuckTables.NONE;
    private static final int FAR = Samples.FAR;
    private static final int SIZE = Samples.SIZE;
    private static final int LOW = Samples.LOW;
    private static final int HIGH = Samples.HIGH;
    private static final Supplier<BuckTables> RICH = Samples::rich;
    private static final Edges edges = new Edges();
    private static final Checks checks = edges.checks;

    // Promise 1

    private static int stepsOf(int step, int length) {
        BuckTables x = Samples.length(step, length);
        x.run();
        return x.fuel(NONE, 0) == 0 ? 0 : x.fuel(0, 2);
    }

    /** "STEP is the nearest of 1 .. 65536." */
    private static void stepIsTheNearest() {
        checks.due("1: step 1", 7, stepsOf(1, 7));
        checks.due("1: step 2", 3, stepsOf(2, 7));
        for (int step : new int[] {0, -1, -65536, LOW}) {
            checks.due("1: step " + step + " is 1", 7, stepsOf(step, 7));
            checks.due("1: step " + step + " is 1, a place", true, Samples.length(step, 7).force(1));
        }
        checks.due("1: step 65535", 1, stepsOf(65535, 65535));
        checks.due("1: step 65536 has no whole one in 65535", 0, stepsOf(65536, 65535));
        checks.due("1: step 65536", 1, stepsOf(65536, 65536));
        for (int step : new int[] {65537, 70000, 1 << 20, HIGH}) {
            checks.due("1: step " + step + " is 65536, too short", 0, stepsOf(step, 65535));
            checks.due("1: step " + step + " is 65536", 1, stepsOf(step, 65536));
            checks.due("1: step " + step + " is 65536, twice", 2, stepsOf(step, 2 * 65536));
        }
    }

    /** "MARGIN and LOSS 0" */
    private static void marginAndLossAreNothingAtFirst() {
        checks.due("1: margin(0) of a new object", false, new BuckTables(10).margin(0));
        checks.due("1: saw(0) of a new object", false, new BuckTables(10).saw(0));
        BuckTables x = Samples.stem(4);
        x.product(20, 20, 500, 0, 1);
        edges.planOfRun("1: neither margin nor loss", x, "0:0+2=0(2) 0:2+2=0(2)", "", 4);
    }

    /** "stem 0 is begun" */
    private static void stemIsBegunAtFirst() {
        checks.due("1: a point of stem 0", true, new BuckTables(10).stem(0, 1, 1));
        checks.due("1: a fault of stem 0", true, new BuckTables(10).fault(0, 1, 1));
        checks.due("1: one stem there was", 2, new BuckTables(10).stems());
        BuckTables x = Samples.stem(3);
        edges.planOfRun("1: stem 0", x, "", "0:0+3", 0);
    }

    /** "no plan was made" */
    private static void noPlanAtFirst() {
        edges.asksThrow("1: a new object", new BuckTables(10));
    }

    // Promise 2

    private static Supplier<BuckTables> behind(int at, int top) {
        return () -> {
            BuckTables x = Samples.rich();
            x.stems();
            x.stem(0, top, 2);
            if (at > 0) {
                x.stem(at, top, 2);
            }
            return x;
        };
    }

    private static BuckTables withFurtherStem() {
        BuckTables x = Samples.rich();
        x.stems();
        return x;
    }

    /** "it is not further than the last one" */
    private static void pointNotFurther() {
        edges.refused("2: a second point at 0", behind(0, 20), x -> x.stem(0, 20, 0));
        edges.tells("2: a second point at 1", behind(0, 20), x -> x.stem(1, 20, 0));
        edges.refused("2: at the last one's place", behind(40, 20), x -> x.stem(40, 20, 0));
        edges.refused("2: before the last one", behind(40, 20), x -> x.stem(39, 20, 0));
        edges.refused("2: back at 0", behind(40, 20), x -> x.stem(0, 20, 0));
        edges.tells("2: one part further", behind(40, 20), x -> x.stem(41, 20, 0));
    }

    /** "(the first one: not at 0)" */
    private static void firstPointNotAtTheButt() {
        edges.refused("2: first at 1", TellTest::withFurtherStem, x -> x.stem(1, 20, 0));
        edges.refused("2: first at a step's end", TellTest::withFurtherStem, x -> x.stem(10, 20, 0));
        edges.refused("2: first too far", TellTest::withFurtherStem, x -> x.stem(FAR, 20, 0));
        edges.tells("2: first at 0", TellTest::withFurtherStem, x -> x.stem(0, 20, 0));
        edges.tells("2: first with the greatest top", TellTest::withFurtherStem, x -> x.stem(0, SIZE, 0));
    }

    /** "its top is greater" */
    private static void topIsGreater() {
        edges.refused("2: top greater by one", behind(40, 20), x -> x.stem(50, 21, 0));
        edges.refused("2: top much greater", behind(40, 20), x -> x.stem(50, SIZE, 0));
        edges.tells("2: the same top", behind(40, 20), x -> x.stem(50, 20, 0));
        edges.tells("2: a lesser top", behind(40, 20), x -> x.stem(50, 19, 0));
        BuckTables x = new BuckTables(10);
        x.stem(0, 20, 0);
        x.stem(10, 15, 0);
        checks.due("2: greater than the last one's, not than the first one's", false, x.stem(20, 16, 0));
        checks.due("2: top 0 behind others", true, x.stem(20, 0, 0));
        checks.due("2: top 1 behind 0", false, x.stem(30, 1, 0));
        checks.due("2: top 0 behind 0", true, x.stem(30, 0, 0));
    }

    /** "there would be more than 80 steps" */
    private static void moreThanEightySteps() {
        edges.refused("2: 81 steps", behind(40, 20), x -> x.stem(810, 20, 0));
        edges.refused("2: far more steps", behind(40, 20), x -> x.stem(FAR, 20, 0));
        edges.tells("2: 80 steps", behind(40, 20), x -> x.stem(800, 20, 0));
        edges.tells("2: 80 steps and nine parts", behind(40, 20), x -> x.stem(809, 20, 0));
        checks.due("2: 80 steps are there", 80, stepsOf(10, 809));
        checks.due("2: 80 steps of one part", 80, stepsOf(1, 80));
        checks.due("2: 81 steps of one part", 0, stepsOf(1, 81));
        checks.due("2: 80 of the greatest steps", 80, stepsOf(65536, 81 * 65536 - 1));
        checks.due("2: 81 of the greatest steps", 0, stepsOf(65536, 81 * 65536));
        checks.due("2: 79 steps", 79, stepsOf(10, 799));
        BuckTables full = Samples.stem(80);
        checks.due("2: further in the 80th step's rest", true, full.stem(801, 500, 0));
        checks.due("2: not into an 81st", false, full.stem(810, 500, 0));
    }

    /** "(first, before anything is looked at): there are 60" */
    private static void sixtyPoints() {
        Supplier<BuckTables> full = Samples::fullOfPoints;
        edges.thrown("2: a point 60", Checks.STATE, full, x -> x.stem(121, 1, 0));
        edges.thrown("2: a point 60 that is not further", Checks.STATE, full, x -> x.stem(120, 1, 0));
        edges.thrown("2: a point 60 with a greater top", Checks.STATE, full, x -> x.stem(121, 20, 0));
        edges.thrown("2: a point 60 too far", Checks.STATE, full, x -> x.stem(FAR, 1, 0));
        edges.thrown("2: a point 60 with a wrong place", Checks.STATE, full, x -> x.stem(-1, 1, 0));
        edges.thrown("2: a point 60 with a wrong top", Checks.STATE, full, x -> x.stem(121, -1, 0));
        edges.thrown("2: a point 60 with a wrong sweep", Checks.STATE, full, x -> x.stem(121, 1, SIZE + 1));
        BuckTables x = Samples.stem(1);
        for (int i = 2; i < 60; i++) {
            checks.due("2: point " + i, true, x.stem(10 * i, 500, i == 59 ? 9 : 0));
        }
        x.product(10, 10, 0, 8, 1);
        checks.due("2: the 60th point counts", 58, x.run());
        checks.due("2: its steps, too", 1, x.fuel(0, 2));
        checks.fails("2: no 61st", Checks.STATE, () -> x.stem(600, 500, 0) ? 1 : 0);
        x.stems();
        checks.due("2: a further stem has room", true, x.stem(0, 500, 0));
    }

    /** "at is not 0 .. 10000000" */
    private static void placeOfPoint() {
        for (int at : new int[] {-1, LOW, FAR + 1, HIGH}) {
            edges.thrown("2: at " + at, Checks.ARGUMENT, behind(40, 20), x -> x.stem(at, 20, 0));
            edges.thrown("2: first at " + at, Checks.ARGUMENT, TellTest::withFurtherStem, x -> x.stem(at, 20, 0));
        }
        edges.refused("2: at 0 is a place", behind(40, 20), x -> x.stem(0, 20, 0));
        edges.refused("2: at 10000000 is a place", behind(40, 20), x -> x.stem(FAR, 20, 0));
    }

    /** "top or sweep not 0 .. 100000" */
    private static void topAndSweepOfPoint() {
        for (int size : new int[] {-1, LOW, SIZE + 1, HIGH}) {
            edges.thrown("2: top " + size, Checks.ARGUMENT, behind(40, 20), x -> x.stem(50, size, 0));
            edges.thrown("2: sweep " + size, Checks.ARGUMENT, behind(40, 20), x -> x.stem(50, 20, size));
            edges.thrown("2: not further, sweep " + size, Checks.ARGUMENT, behind(40, 20), x -> x.stem(40, 20, size));
        }
        edges.tells("2: top 0", behind(40, 20), x -> x.stem(50, 0, 0));
        edges.tells("2: sweep 100000", behind(40, 20), x -> x.stem(50, 20, SIZE));
        edges.tells("2: top 100000", TellTest::withFurtherStem, x -> x.stem(0, SIZE, SIZE));
        BuckTables x = new BuckTables(10);
        x.stem(0, SIZE, SIZE);
        x.stem(10, SIZE, SIZE);
        x.stem(20, SIZE - 1, SIZE);
        x.product(10, 10, SIZE, SIZE, 1);
        edges.planOfRun("2: the greatest top and sweep count", x, "0:0+1=0(1)", "0:1+1", 1);
        x.product(10, 10, 0, SIZE - 1, 2);
        edges.planOfRun("2: the greatest sweep is above the next one", x, "0:0+1=0(1)", "0:1+1", 1);
    }

    // Promise 3

    /** "to is not above from" */
    private static void faultWithoutLength() {
        edges.refused("3: to is from", RICH, x -> x.fault(5, 5, 0));
        edges.refused("3: to below from", RICH, x -> x.fault(5, 4, 0));
        edges.refused("3: both 0", RICH, x -> x.fault(0, 0, 0));
        edges.refused("3: both 10000000", RICH, x -> x.fault(FAR, FAR, 7));
        edges.refused("3: from 10000000 to 0", RICH, x -> x.fault(FAR, 0, 7));
        edges.tells("3: one part", RICH, x -> x.fault(5, 6, 0));
        edges.tells("3: the same fault again", RICH, x -> x.fault(12, 25, 2));
    }

    /** "there are 20" */
    private static void twentyFaults() {
        Supplier<BuckTables> full = Samples::fullOfFaults;
        edges.thrown("3: a fault 20", Checks.STATE, full, x -> x.fault(1, 2, 0));
        edges.thrown("3: a fault 20 from a wrong place", Checks.STATE, full, x -> x.fault(-1, 2, 0));
        edges.thrown("3: a fault 20 to a wrong place", Checks.STATE, full, x -> x.fault(1, FAR + 1, 0));
        edges.thrown("3: a fault 20 of a wrong kind", Checks.STATE, full, x -> x.fault(1, 2, 8));
        edges.thrown("3: a fault 20 without length", Checks.STATE, full, x -> x.fault(2, 2, 0));
        BuckTables x = Samples.stem(20);
        x.product(10, 10, 0, 0, 1);
        x.bars(0, 5);
        for (int i = 0; i < 20; i++) {
            checks.due("3: fault " + i, true, x.fault(10 * i, 10 * i + 1, i == 0 || i == 19 ? 5 : 4));
        }
        edges.planOfRun("3: the first and the 20th count", x, row(1, 19), "0:0+1 0:19+1", 18);
        checks.fails("3: no 21st", Checks.STATE, () -> x.fault(50, 60, 5) ? 1 : 0);
        x.stems();
        checks.due("3: a further stem has room", true, x.fault(50, 60, 5));
    }

    private static String row(int first, int behind) {
        StringBuilder all = new StringBuilder();
        for (int i = first; i < behind; i++) {
            all.append(i > first ? " " : "").append("0:").append(i).append("+1=0(1)");
        }
        return all.toString();
    }

    /** "from or to is not 0 .. 10000000" */
    private static void placesOfFault() {
        for (int at : new int[] {-1, LOW, FAR + 1, HIGH}) {
            edges.thrown("3: from " + at, Checks.ARGUMENT, RICH, x -> x.fault(at, 5, 0));
            edges.thrown("3: to " + at, Checks.ARGUMENT, RICH, x -> x.fault(5, at, 0));
        }
        edges.tells("3: from 0", RICH, x -> x.fault(0, 1, 0));
        edges.tells("3: to 10000000", RICH, x -> x.fault(FAR - 1, FAR, 0));
        BuckTables x = Samples.stem(4);
        x.product(10, 10, 0, 0, 1);
        x.bars(0, 0);
        x.fault(30, FAR, 0);
        edges.planOfRun("3: up to 10000000", x, row(0, 3), "0:3+1", 3);
        x.fault(0, 1, 0);
        edges.planOfRun("3: from 0 on", x, row(1, 3), "0:0+1 0:3+1", 2);
    }

    /** "kind not 0 .. 7" */
    private static void kindOfFault() {
        for (int kind : new int[] {-1, LOW, 8, HIGH}) {
            edges.thrown("3: kind " + kind, Checks.ARGUMENT, RICH, x -> x.fault(5, 6, kind));
            edges.thrown("3: without length, kind " + kind, Checks.ARGUMENT, RICH, x -> x.fault(6, 6, kind));
        }
        for (int kind = 0; kind < 8; kind++) {
            int each = kind;
            edges.tells("3: kind " + kind, RICH, x -> x.fault(5, 6, each));
            BuckTables x = Samples.stem(2);
            x.product(10, 10, 0, 0, 1);
            x.fault(5, 6, kind);
            x.bars(0, (kind + 1) % 8);
            edges.planOfRun("3: the kind beside " + kind, x, row(0, 2), "", 2);
            x.bars(0, kind);
            edges.planOfRun("3: kind " + kind + " is barred", x, row(1, 2), "0:0+1", 1);
        }
    }

    // Promise 4

    /** "A further stem begins: how many there are." */
    private static void furtherStem() {
        edges.tells("4: a third stem", 3, RICH, BuckTables::stems);
        BuckTables x = new BuckTables(10);
        for (int count = 2; count <= 6; count++) {
            checks.due("4: stems", count, x.stems());
        }
        Samples.addStem(x, 20);
        edges.planOfRun("4: the latest one is stem 5, those before it are empty", x, "", "5:0+2", 0);
    }

    /** "there are 6" */
    private static void sixStems() {
        edges.thrown("4: a seventh stem", Checks.STATE, Samples::fullOfStems, BuckTables::stems);
        BuckTables x = Samples.fullOfStems();
        checks.fails("4: no seventh", Checks.STATE, x::stems);
        checks.fails("4: nor at a second try", Checks.STATE, x::stems);
        checks.due("4: what is told is of the sixth", true, x.stem(56, 15, 0));
    }

    // Promise 5

    /** "A product more: its number." */
    private static void numberOfProduct() {
        BuckTables x = Samples.stem(1);
        for (int number = 0; number < 8; number++) {
            checks.due("5: product", number, x.product(10, 10, 0, 0, number + 1));
            edges.planOfRun("5: product " + number, x, "0:0+1=" + number + "(" + (number + 1) + ")", "", number + 1);
        }
        edges.tells("5: a fourth product", 3, RICH, y -> y.product(10, 10, 0, 0, 1));
        edges.tells("5: the same product again", 3, RICH, y -> y.product(20, 50, 10, 8, 3));
    }

    /** "there are 8" */
    private static void eightProducts() {
        Supplier<BuckTables> full = Samples::fullOfProducts;
        edges.thrown("5: a product 8", Checks.STATE, full, x -> x.product(10, 10, 0, 0, 1));
        edges.thrown("5: a product 8 of a wrong length", Checks.STATE, full, x -> x.product(0, 10, 0, 0, 1));
        edges.thrown("5: a product 8 of a wrong worth", Checks.STATE, full, x -> x.product(10, 10, 0, 0, -1));
    }

    /** "a length is not 1 .. 10000000" */
    private static void lengthsOfProduct() {
        for (int length : new int[] {0, -1, LOW, FAR + 1, HIGH}) {
            edges.thrown("5: least length " + length, Checks.ARGUMENT, RICH, x -> x.product(length, FAR, 0, 0, 1));
            edges.thrown("5: greatest length " + length, Checks.ARGUMENT, RICH, x -> x.product(1, length, 0, 0, 1));
            edges.thrown("5: both lengths " + length, Checks.ARGUMENT, RICH, x -> x.product(length, length, 0, 0, 1));
        }
        edges.tells("5: both lengths 1", 3, RICH, x -> x.product(1, 1, 0, 0, 1));
        edges.tells("5: lengths 1 and 10000000", 3, RICH, x -> x.product(1, FAR, 0, 0, 1));
        edges.tells("5: both lengths 10000000", 3, RICH, x -> x.product(FAR, FAR, 0, 0, 1));
        BuckTables one = Samples.length(1, 2);
        one.product(1, 1, 0, 0, 1);
        edges.planOfRun("5: a length of 1", one, "0:0+1=0(1) 0:1+1=0(1)", "", 2);
        BuckTables all = Samples.stem(80);
        all.product(1, FAR, 0, 0, 1);
        edges.planOfRun("5: all lengths", all, "0:0+80=0(80)", "", 80);
        BuckTables none = Samples.length(65536, 80 * 65536);
        none.product(FAR, FAR, 0, 0, 1);
        edges.planOfRun("5: no stem is so long", none, "", "0:0+80", 0);
    }

    /** "the least one above the greatest one" */
    private static void leastLengthAboveGreatest() {
        edges.thrown("5: 11 to 10", Checks.ARGUMENT, RICH, x -> x.product(11, 10, 0, 0, 1));
        edges.thrown("5: 2 to 1", Checks.ARGUMENT, RICH, x -> x.product(2, 1, 0, 0, 1));
        edges.thrown("5: 10000000 to 9999999", Checks.ARGUMENT, RICH, x -> x.product(FAR, FAR - 1, 0, 0, 1));
        edges.tells("5: 10 to 10", 3, RICH, x -> x.product(10, 10, 0, 0, 1));
        edges.tells("5: 10 to 11", 3, RICH, x -> x.product(10, 11, 0, 0, 1));
    }

    /** "top or sweep not 0 .. 100000" */
    private static void topAndSweepOfProduct() {
        for (int size : new int[] {-1, LOW, SIZE + 1, HIGH}) {
            edges.thrown("5: top " + size, Checks.ARGUMENT, RICH, x -> x.product(10, 10, size, 0, 1));
            edges.thrown("5: sweep " + size, Checks.ARGUMENT, RICH, x -> x.product(10, 10, 0, size, 1));
        }
        edges.tells("5: top and sweep 0", 3, RICH, x -> x.product(10, 10, 0, 0, 1));
        edges.tells("5: top 100000", 3, RICH, x -> x.product(10, 10, SIZE, 0, 1));
        edges.tells("5: sweep 100000", 3, RICH, x -> x.product(10, 10, 0, SIZE, 1));
        BuckTables x = new BuckTables(10);
        x.stem(0, SIZE, 1);
        x.stem(10, SIZE, 0);
        x.stem(20, 0, 0);
        x.stem(30, 0, SIZE);
        x.product(10, 10, SIZE, SIZE, 2);
        edges.planOfRun("5: top 100000 is asked", x, "0:0+1=0(2)", "0:1+2", 2);
        x.product(10, 10, 0, 0, 3);
        edges.planOfRun("5: top 0 and sweep 0 are asked", x, "0:0+1=0(2) 0:1+1=1(3)", "0:2+1", 5);
        x.product(10, 10, 0, SIZE, 1);
        edges.planOfRun("5: sweep 100000 is asked", x, "0:0+1=0(2) 0:1+1=1(3) 0:2+1=2(1)", "", 6);
    }

    /** "worth not 0 .. 100000" */
    private static void worthOfProduct() {
        for (long worth : new long[] {-1, Long.MIN_VALUE, SIZE + 1, Long.MAX_VALUE, 1L << 32, -(1L << 32) + 1}) {
            edges.thrown("5: worth " + worth, Checks.ARGUMENT, RICH, x -> x.product(10, 10, 0, 0, worth));
        }
        edges.tells("5: worth 0", 3, RICH, x -> x.product(10, 10, 0, 0, 0));
        edges.tells("5: worth 100000", 3, RICH, x -> x.product(10, 10, 0, 0, SIZE));
        BuckTables x = Samples.stem(80);
        x.product(10, 10, 0, 0, 0);
        edges.planOfRun("5: worth 0 is worth nothing", x, "", "0:0+80", 0);
        x.product(800, 800, 0, 0, SIZE);
        edges.planOfRun("5: worth 100000 of each step", x, "0:0+80=1(8000000)", "", 80L * SIZE);
    }

    // Promise 6

    /** "it did already" */
    private static void barsAlready() {
        edges.refused("6: again", RICH, x -> x.bars(0, 2));
        edges.refused("6: again, of another product", RICH, x -> x.bars(2, 0));
        edges.tells("6: another kind", RICH, x -> x.bars(0, 3));
        edges.tells("6: another product", RICH, x -> x.bars(1, 2));
        BuckTables x = Samples.rich();
        checks.due("6: the first time", true, x.bars(1, 7));
        checks.due("6: the second time", false, x.bars(1, 7));
        checks.due("6: the third time", false, x.bars(1, 7));
    }

    private static final int[] NO_PRODUCTS = {-1, 3, 7, 8, LOW, HIGH};

    /** "IndexOutOfBoundsException: there is no such product", before what else is wrong. */
    private static void noSuchProduct() {
        for (int p : NO_PRODUCTS) {
            edges.thrown("6: bars of product " + p, Checks.INDEX, RICH, x -> x.bars(p, 0));
            edges.thrown("6: bars a wrong kind of product " + p, Checks.INDEX, RICH, x -> x.bars(p, 8));
            edges.thrown("10: limit of product " + p, Checks.INDEX, RICH, x -> x.limit(p, 1));
            edges.thrown("10: wrong limit of product " + p, Checks.INDEX, RICH, x -> x.limit(p, -1));
            edges.thrown("11: wish of product " + p, Checks.INDEX, RICH, x -> x.wish(p, 0, 1));
            edges.thrown("11: wish on a wrong day of product " + p, Checks.INDEX, RICH, x -> x.wish(p, 7, 1));
            edges.thrown("11: wrong wish of product " + p, Checks.INDEX, RICH, x -> x.wish(p, 0, -1));
        }
        BuckTables none = Samples.stem(2);
        checks.fails("6: bars without products", Checks.INDEX, () -> none.bars(0, 0) ? 1 : 0);
        checks.fails("10: limit without products", Checks.INDEX, () -> none.limit(0, 0) ? 1 : 0);
        checks.fails("11: wish without products", Checks.INDEX, () -> none.wish(0, 0, 1) ? 1 : 0);
        BuckTables full = Samples.fullOfProducts();
        checks.due("6: bars of product 7", true, full.bars(7, 7));
        checks.due("10: limit of product 7", true, full.limit(7, 1));
        checks.due("11: wish of product 7", true, full.wish(7, 6, 1));
        checks.fails("6: bars of product 8 of eight", Checks.INDEX, () -> full.bars(8, 7) ? 1 : 0);
        checks.fails("10: limit of product 8 of eight", Checks.INDEX, () -> full.limit(8, 1) ? 1 : 0);
        checks.fails("11: wish of product 8 of eight", Checks.INDEX, () -> full.wish(8, 6, 1) ? 1 : 0);
    }

    /** "kind is not 0 .. 7" */
    private static void kindThatIsBarred() {
        for (int kind : new int[] {-1, LOW, 8, HIGH}) {
            edges.thrown("6: kind " + kind, Checks.ARGUMENT, RICH, x -> x.bars(0, kind));
        }
        edges.tells("6: kind 0", RICH, x -> x.bars(0, 0));
        edges.tells("6: kind 7", RICH, x -> x.bars(0, 7));
    }

    // Promise 7

    private static final Supplier<BuckTables> LONG = () -> {
        BuckTables x = Samples.rich();
        x.stems();
        x.stem(0, 15, 1);
        x.stem(109, 14, 1);
        x.force(30);
        return x;
    };

    /** "it is no end of a step of the stem" */
    private static void noEndOfStep() {
        for (int at : new int[] {1, 9, 11, 29, 31, 99, 101, 109}) {
            edges.refused("7: inside a step, " + at, LONG, x -> x.force(at));
        }
        edges.refused("7: behind the last whole step", LONG, x -> x.force(110));
        edges.refused("7: far behind", LONG, x -> x.force(800));
        edges.refused("7: at 10000000", LONG, x -> x.force(FAR));
        edges.tells("7: the first end", LONG, x -> x.force(10));
        edges.tells("7: the last end", LONG, x -> x.force(100));
        BuckTables x = Samples.stem(4);
        x.product(10, 40, 0, 0, 1);
        x.force(10);
        x.force(40);
        edges.planOfRun("7: the first and the last end", x, "0:0+1=0(1) 0:1+3=0(3)", "", 4);
    }

    /** "(0 is none)" */
    private static void buttIsNoEnd() {
        edges.refused("7: at 0", LONG, x -> x.force(0));
        edges.refused("7: at 0 of a stem without points", TellTest::withFurtherStem, x -> x.force(0));
        edges.refused("7: at 0 of a stem with one point", behind(0, 20), x -> x.force(0));
    }

    /** "of the stem as it is now" */
    private static void stemAsItIsNow() {
        edges.refused("7: a stem without points", TellTest::withFurtherStem, x -> x.force(10));
        edges.refused("7: a stem with one point", behind(0, 20), x -> x.force(10));
        edges.refused("7: a stem without a whole step", behind(9, 20), x -> x.force(10));
        edges.tells("7: a stem of one step", behind(10, 20), x -> x.force(10));
        BuckTables x = Samples.stem(2);
        x.product(10, 40, 0, 0, 1);
        checks.due("7: behind the end", false, x.force(30));
        checks.due("7: at the end", true, x.force(20));
        x.stem(40, 500, 0);
        edges.planOfRun("7: what was refused is none, what was the end is one", x, "0:0+2=0(2) 0:2+2=0(2)", "", 4);
        checks.due("7: now there is that end", true, x.force(30));
        checks.due("7: the former end was forced", false, x.force(20));
        edges.planOfRun("7: three cuts", x, "0:0+2=0(2) 0:2+1=0(1) 0:3+1=0(1)", "", 4);
        x.stems();
        Samples.addStem(x, 30);
        checks.due("7: forced in another stem alone", true, x.force(20));
        checks.due("7: behind this stem's end", false, x.force(40));
    }

    /** "or was forced" */
    private static void wasForced() {
        edges.refused("7: again", LONG, x -> x.force(30));
        BuckTables x = Samples.stem(4);
        checks.due("7: the first time", true, x.force(40));
        checks.due("7: the second time", false, x.force(40));
        x.run();
        checks.due("7: a hand's cut", 0, x.override(20));
        checks.due("7: forced by a hand", false, x.force(20));
        checks.due("7: the plan stands", 0, x.worth());
    }

    /** "at is not 0 .. 10000000" */
    private static void placeOfCut() {
        for (int at : new int[] {-1, -10, LOW, FAR + 1, FAR + 10, HIGH}) {
            edges.thrown("7: at " + at, Checks.ARGUMENT, LONG, x -> x.force(at));
        }
        edges.refused("7: 0 is a place", LONG, x -> x.force(0));
        edges.refused("7: 10000000 is a place", LONG, x -> x.force(FAR));
    }

    // Promise 8

    /** "MARGIN is v from now on; false: it was." */
    private static void marginWas() {
        edges.refused("8: again", RICH, x -> x.margin(1));
        edges.tells("8: one more", RICH, x -> x.margin(2));
        edges.tells("8: back to nothing", RICH, x -> x.margin(0));
        BuckTables x = new BuckTables(10);
        checks.due("8: nothing at first", false, x.margin(0));
        checks.due("8: the greatest", true, x.margin(SIZE));
        checks.due("8: the greatest again", false, x.margin(SIZE));
        checks.due("8: nothing again", true, x.margin(0));
        checks.due("8: nothing was", false, x.margin(0));
    }

    /** "v is not 0 .. 100000" */
    private static void rangeOfMargin() {
        for (int v : new int[] {-1, LOW, SIZE + 1, HIGH}) {
            edges.thrown("8: margin " + v, Checks.ARGUMENT, RICH, x -> x.margin(v));
        }
        edges.tells("8: margin 0", RICH, x -> x.margin(0));
        edges.tells("8: margin 100000", RICH, x -> x.margin(SIZE));
        BuckTables x = new BuckTables(10);
        x.stem(0, SIZE, 0);
        x.stem(10, SIZE, 0);
        x.stem(20, SIZE - 1, 0);
        x.product(10, 10, 0, SIZE, 1);
        x.margin(SIZE);
        edges.planOfRun("8: the greatest margin, just kept", x, "0:0+1=0(1)", "0:1+1", 1);
        x.margin(SIZE - 1);
        edges.planOfRun("8: one less", x, "0:0+1=0(1) 0:1+1=0(1)", "", 2);
    }

    // Promise 9

    /** "LOSS is so many steps from now on; false: it was." */
    private static void lossWas() {
        edges.refused("9: again", RICH, x -> x.saw(1));
        edges.tells("9: back to nothing", RICH, x -> x.saw(0));
        BuckTables x = new BuckTables(10);
        checks.due("9: nothing at first", false, x.saw(0));
        for (int loss = 1; loss <= 3; loss++) {
            checks.due("9: loss " + loss, true, x.saw(loss));
            checks.due("9: loss " + loss + " again", false, x.saw(loss));
        }
        checks.due("9: nothing again", true, x.saw(0));
        checks.due("9: nothing was", false, x.saw(0));
    }

    /** "it is not 0 .. 3" */
    private static void rangeOfLoss() {
        for (int loss : new int[] {-1, LOW, 4, HIGH}) {
            edges.thrown("9: loss " + loss, Checks.ARGUMENT, RICH, x -> x.saw(loss));
        }
        edges.tells("9: loss 0", RICH, x -> x.saw(0));
        edges.tells("9: loss 3", RICH, x -> x.saw(3));
        BuckTables x = Samples.stem(9);
        x.product(10, 10, 0, 0, 1);
        x.saw(3);
        edges.planOfRun("9: three steps are lost", x, "0:0+1=0(1) 0:4+1=0(1) 0:8+1=0(1)", "", 3);
    }

    // Promise 10

    /** "(none at first; it can be changed, not taken away); false: it was that." */
    private static void limitWas() {
        edges.refused("10: again", RICH, x -> x.limit(0, 2));
        edges.tells("10: one more", RICH, x -> x.limit(0, 3));
        edges.tells("10: one less", RICH, x -> x.limit(0, 1));
        edges.tells("10: a first one", RICH, x -> x.limit(2, 0));
        BuckTables x = Samples.stem(3);
        x.product(10, 10, 0, 0, 1);
        x.run();
        checks.due("10: none at first", NONE, x.price(0, 2));
        checks.due("10: priced without one", 1, x.priced(1));
        checks.due("10: all logs without one", 3, x.price(0, 1));
        checks.due("10: a limit of none is one", true, x.limit(0, 0));
        checks.due("10: it was that", false, x.limit(0, 0));
        x.run();
        checks.due("10: it is 0", 0, x.price(0, 2));
        checks.due("10: changed", true, x.limit(0, 1000));
        checks.fails("10: it can't be taken away", Checks.ARGUMENT, () -> x.limit(0, NONE) ? 1 : 0);
        x.run();
        checks.due("10: it is 1000", 1000, x.price(0, 2));
    }

    /** "most is not 0 .. 1000" */
    private static void rangeOfLimit() {
        for (long most : new long[] {-1, Long.MIN_VALUE, 1001, Long.MAX_VALUE, 1L << 32, -(1L << 32) + 2}) {
            edges.thrown("10: limit " + most, Checks.ARGUMENT, RICH, x -> x.limit(0, most));
            edges.thrown("10: first limit " + most, Checks.ARGUMENT, RICH, x -> x.limit(2, most));
        }
        edges.tells("10: limit 0", RICH, x -> x.limit(0, 0));
        edges.tells("10: limit 1000", RICH, x -> x.limit(0, 1000));
        BuckTables x = Samples.stem(3);
        x.product(10, 10, 0, 0, 1);
        x.limit(0, 0);
        x.priced(1);
        edges.plan("10: a limit of 0", x, "", "0:0+3", 0);
        x.limit(0, 1);
        x.priced(1);
        edges.plan("10: a limit of 1", x, "0:0+1=0(1)", "0:1+2", 1);
    }

    // Promise 11

    /** "What is wished for a product on a day; false: it was that." */
    private static void wishWas() {
        edges.refused("11: again", RICH, x -> x.wish(0, 1, 7));
        edges.refused("11: nothing on a day without", RICH, x -> x.wish(0, 0, 0));
        edges.refused("11: nothing on day 6", RICH, x -> x.wish(2, 6, 0));
        edges.tells("11: one more", RICH, x -> x.wish(0, 1, 8));
        edges.tells("11: nothing again", RICH, x -> x.wish(0, 1, 0));
        edges.tells("11: the same on another day", RICH, x -> x.wish(0, 0, 7));
        edges.tells("11: the same of another product", RICH, x -> x.wish(1, 1, 7));
        BuckTables x = Samples.stem(1);
        x.product(10, 10, 0, 0, 1);
        x.wish(0, 0, 5);
        x.wish(0, 0, 4);
        edges.planOfRun("11: the latest wish is it", x, "0:0+1=0(5)", "", 5);
    }

    /** "day is not 0 .. 6" */
    private static void rangeOfDay() {
        for (int day : new int[] {-1, LOW, 7, HIGH}) {
            edges.thrown("11: day " + day, Checks.ARGUMENT, RICH, x -> x.wish(0, day, 1));
            edges.thrown("11: nothing on day " + day, Checks.ARGUMENT, RICH, x -> x.wish(0, day, 0));
        }
        edges.tells("11: day 0", RICH, x -> x.wish(0, 0, 1));
        edges.tells("11: day 6", RICH, x -> x.wish(0, 6, 1));
    }

    /** "worth2 not 0 .. 100000" */
    private static void rangeOfWish() {
        for (long worth : new long[] {-1, Long.MIN_VALUE, SIZE + 1, Long.MAX_VALUE, 1L << 32, -(1L << 32) + 7}) {
            edges.thrown("11: wish " + worth, Checks.ARGUMENT, RICH, x -> x.wish(0, 1, worth));
        }
        edges.tells("11: wish 0", RICH, x -> x.wish(0, 1, 0));
        edges.tells("11: wish 100000", RICH, x -> x.wish(0, 1, SIZE));
        BuckTables x = Samples.stem(1);
        x.product(10, 10, 0, 0, SIZE);
        x.wish(0, 0, SIZE);
        edges.planOfRun("11: the greatest wish", x, "0:0+1=0(200000)", "", 2L * SIZE);
    }

    private static void promises1To4() {
        stepIsTheNearest();
        marginAndLossAreNothingAtFirst();
        stemIsBegunAtFirst();
        noPlanAtFirst();
        pointNotFurther();
        firstPointNotAtTheButt();
        topIsGreater();
        moreThanEightySteps();
        sixtyPoints();
        placeOfPoint();
        topAndSweepOfPoint();
        faultWithoutLength();
        twentyFaults();
        placesOfFault();
        kindOfFault();
        furtherStem();
        sixStems();
    }

    private static void promises5To11() {
        numberOfProduct();
        eightProducts();
        lengthsOfProduct();
        leastLengthAboveGreatest();
        topAndSweepOfProduct();
        worthOfProduct();
        barsAlready();
        noSuchProduct();
        kindThatIsBarred();
        noEndOfStep();
        buttIsNoEnd();
        stemAsItIsNow();
        wasForced();
        placeOfCut();
        marginWas();
        rangeOfMargin();
        lossWas();
        rangeOfLoss();
        limitWas();
        rangeOfLimit();
        wishWas();
        rangeOfDay();
        rangeOfWish();
    }

    public static void main(String[] args) {
        promises1To4();
        promises5To11();
        checks.end();
    }
}
