/** The section 'Terms': a test for each sentence that names an edge, on stems small enough to be worked out by hand. */
public final class TermsTest {
    private static final int NONE = BuckTables.NONE;
    private static final int SIZE = Samples.SIZE;
    private static final Edges edges = new Edges();
    private static final Checks checks = edges.checks;

    // Stems

    /** "STEMS are 0 .. 5, in the order in which they are begun; stem 0 is begun at first" */
    private static void stemsInTheirOrder() {
        BuckTables x = new BuckTables(10);
        x.product(10, 800, 0, 0, 1);
        StringBuilder logs = new StringBuilder();
        for (int s = 0; s < 6; s++) {
            if (s > 0) {
                x.stems();
            }
            Samples.addStem(x, 10 * (6 - s));
            logs.append(s > 0 ? " " : "").append(s).append(":0+").append(6 - s).append("=0(").append(6 - s).append(")");
        }
        edges.planOfRun("stems in their order", x, logs.toString(), "", 21);
    }

    /** "what is told of a stem is of the latest one" */
    private static void toldOfTheLatestStem() {
        BuckTables x = Samples.stem(4);
        x.product(10, 40, 0, 0, 1);
        x.bars(0, 3);
        x.stems();
        Samples.addStem(x, 40);
        x.fault(0, 5, 3);
        x.force(30);
        edges.planOfRun("told of the latest", x, "0:0+4=0(4) 1:1+2=0(2) 1:3+1=0(1)", "1:0+1", 7);
        x.stems();
        edges.planOfRun("a further one changes none", x, "0:0+4=0(4) 1:1+2=0(2) 1:3+1=0(1)", "1:0+1", 7);
    }

    /** "its length is the place of its last point (0 without), it has as many steps as that has whole ones, 80 at most" */
    private static void stepsOfStem() {
        int[][] steps = {{0, 0}, {1, 0}, {9, 0}, {10, 1}, {11, 1}, {19, 1}, {20, 2}, {799, 79}, {800, 80}, {809, 80}};
        for (int[] want : steps) {
            BuckTables x = Samples.length(10, want[0]);
            edges.planOfRun("a stem of " + want[0], x, "", want[1] == 0 ? "" : "0:0+" + want[1], 0);
        }
        edges.planOfRun("a stem without points", new BuckTables(10), "", "", 0);
        BuckTables grown = Samples.length(10, 15);
        grown.stem(29, 500, 0);
        grown.stem(30, 500, 0);
        edges.planOfRun("the last point's place", grown, "", "0:0+3", 0);
    }

    // Products

    /** "what a log of it is worth more when it is cut on a day 0 .. 6; stem s is cut on day s" */
    private static void stemIsCutOnItsDay() {
        for (int day = 0; day < 7; day++) {
            BuckTables x = new BuckTables(10);
            for (int s = 0; s < 6; s++) {
                if (s > 0) {
                    x.stems();
                }
                Samples.addStem(x, 10);
            }
            x.product(10, 10, 0, 0, 1);
            x.wish(0, day, 10);
            x.run();
            for (int s = 0; s < 6; s++) {
                checks.due("stem " + s + ", a wish on day " + day, s == day ? 11 : 1, x.log(s, 4));
            }
            checks.due("all stems, a wish on day " + day, day == 6 ? 6 : 16, x.worth());
        }
    }

    // A log

    /** Whether a stem of so many steps can be one log. */
    private static boolean fits(int low, int high, int steps) {
        BuckTables x = Samples.stem(steps);
        x.product(low, high, 0, 0, 1);
        return x.run() == 1 && x.log(0, 2) == steps;
    }

    /** "if its length is from the least to the greatest one" */
    private static void lengthOfLog() {
        checks.due("least 10, one step", true, fits(10, 50, 1));
        checks.due("least 11, one step", false, fits(11, 50, 1));
        checks.due("least 11, two steps", true, fits(11, 50, 2));
        checks.due("least 20, two steps", true, fits(20, 50, 2));
        checks.due("least 21, two steps", false, fits(21, 50, 2));
        checks.due("greatest 29, three steps", false, fits(1, 29, 3));
        checks.due("greatest 30, three steps", true, fits(1, 30, 3));
        checks.due("greatest 39, three steps", true, fits(1, 39, 3));
        checks.due("greatest 39, four steps", false, fits(1, 39, 4));
        checks.due("both 30, two steps", false, fits(30, 30, 2));
        checks.due("both 30, three steps", true, fits(30, 30, 3));
        checks.due("both 30, four steps", false, fits(30, 30, 4));
        checks.due("80 steps", true, fits(800, 800, 80));
        checks.due("longer than 80 steps", false, fits(801, 809, 80));
    }

    /** "goes from a step's begin to a step's end" */
    private static void logOfWholeSteps() {
        BuckTables x = Samples.length(10, 25);
        x.product(21, 29, 0, 0, 1);
        edges.planOfRun("no whole steps are so long", x, "", "0:0+2", 0);
        BuckTables y = Samples.length(10, 25);
        y.product(1, 9, 0, 0, 1);
        edges.planOfRun("a whole step is longer", y, "", "0:0+2", 0);
    }

    private static boolean isLog(int stemTop, int stemSweep, int top, int sweep, int margin) {
        BuckTables x = new BuckTables(10);
        x.stem(0, stemTop, stemSweep);
        x.stem(10, stemTop, stemSweep);
        x.product(10, 10, top, sweep, 1);
        x.margin(margin);
        return x.run() == 1;
    }

    /** "its end's TOP less MARGIN is not below the product's" */
    private static void topOfLog() {
        checks.due("top above", true, isLog(50, 0, 49, SIZE, 0));
        checks.due("top just so", true, isLog(50, 0, 50, SIZE, 0));
        checks.due("top below", false, isLog(50, 0, 51, SIZE, 0));
        checks.due("top less margin just so", true, isLog(50, 0, 43, SIZE, 7));
        checks.due("top less margin below", false, isLog(50, 0, 44, SIZE, 7));
        checks.due("top less margin just 0", true, isLog(7, 0, 0, SIZE, 7));
        checks.due("top less margin below 0", false, isLog(6, 0, 0, SIZE, 7));
        checks.due("top 0", true, isLog(0, 0, 0, SIZE, 0));
    }

    /** "its SWEEP and MARGIN are not more than the product's" */
    private static void sweepOfLog() {
        checks.due("sweep below", true, isLog(SIZE, 4, 0, 5, 0));
        checks.due("sweep just so", true, isLog(SIZE, 5, 0, 5, 0));
        checks.due("sweep above", false, isLog(SIZE, 6, 0, 5, 0));
        checks.due("sweep and margin just so", true, isLog(SIZE, 5, 0, 12, 7));
        checks.due("sweep and margin above", false, isLog(SIZE, 5, 0, 11, 7));
        checks.due("margin alone just so", true, isLog(SIZE, 0, 0, 7, 7));
        checks.due("margin alone above", false, isLog(SIZE, 0, 0, 6, 7));
        checks.due("the greatest of both", true, isLog(SIZE, 0, 0, SIZE, SIZE));
        checks.due("more than the greatest", false, isLog(SIZE, 1, 0, SIZE, SIZE));
    }

    /** Of three logs of two steps each the middle one, from 20 to 40. */
    private static boolean middleIsLog(int from, int to, int kind) {
        BuckTables x = Samples.stem(6);
        x.product(20, 20, 0, 0, 1);
        x.bars(0, 3);
        x.force(20);
        x.force(40);
        x.fault(from, to, kind);
        x.run();
        return Snapshot.logs(x).contains("0:2+2=0(2)");
    }

    /** "no fault that the product bars begins before the log's end and ends behind its begin" */
    private static void faultOfLog() {
        checks.due("a fault ends at the begin", true, middleIsLog(10, 20, 3));
        checks.due("a fault ends one part behind the begin", false, middleIsLog(10, 21, 3));
        checks.due("a fault begins at the end", true, middleIsLog(40, 50, 3));
        checks.due("a fault begins one part before the end", false, middleIsLog(39, 50, 3));
        checks.due("a fault from begin to end", false, middleIsLog(20, 40, 3));
        checks.due("a fault of one part at the begin", false, middleIsLog(20, 21, 3));
        checks.due("a fault of one part at the end", false, middleIsLog(39, 40, 3));
        checks.due("a fault inside", false, middleIsLog(29, 31, 3));
        checks.due("a fault over all", false, middleIsLog(0, Samples.FAR, 3));
        checks.due("a fault of another kind", true, middleIsLog(0, Samples.FAR, 4));
        checks.due("a fault behind the stem", true, middleIsLog(60, 70, 3));
    }

    /** "no forced cut is inside it" */
    private static void cutOfLog() {
        for (int at = 10; at <= 50; at += 10) {
            BuckTables x = Samples.stem(5);
            x.product(30, 30, 0, 0, 1);
            x.force(at);
            int first = at == 10 || at == 20 ? at / 10 : 0;
            x.run();
            checks.due("a log beside the cut at " + at, "0:" + first + "+3=0(3)", Snapshot.logs(x));
        }
        BuckTables both = Samples.stem(5);
        both.product(30, 30, 0, 0, 1);
        both.force(10);
        both.force(40);
        edges.planOfRun("cuts at its begin and end", both, "0:1+3=0(3)", "0:0+1 0:4+1", 3);
        both.force(20);
        edges.planOfRun("a cut inside", both, "", "0:0+5", 0);
    }

    /** "Its end's TOP is that of the first point that is not before its end" */
    private static void topOfFirstPointNotBeforeEnd() {
        int[][] cases = {{9, 0}, {10, 1}, {11, 1}, {19, 1}, {20, 2}, {21, 2}, {29, 2}, {30, 3}};
        for (int[] want : cases) {
            BuckTables x = new BuckTables(10);
            x.stem(0, 100, 0);
            x.stem(want[0], 50, 0);
            x.stem(61, 49, 0);
            x.product(10, 10, 50, 0, 1);
            checks.due("logs up to the point at " + want[0], want[1], x.run());
        }
        BuckTables last = new BuckTables(10);
        last.stem(0, 100, 0);
        last.stem(10, 50, 0);
        last.stem(25, 40, 0);
        last.product(10, 10, 40, 0, 1);
        edges.planOfRun("the last point is behind the last end", last, "0:0+1=0(1) 0:1+1=0(1)", "", 2);
    }

    /** The steps that can be logs, a point with too great a sweep being among points with none. */
    private static String stepsWithout(int... points) {
        BuckTables x = new BuckTables(10);
        for (int i = 0; i < points.length; i++) {
            boolean bent = points[i] < 0;
            x.stem(bent ? -points[i] : points[i], 500, bent ? 9 : 0);
        }
        x.product(10, 10, 0, 8, 1);
        x.run();
        StringBuilder firsts = new StringBuilder();
        for (int k = 0; k < x.log(NONE, 0); k++) {
            firsts.append(x.log(k, 1));
        }
        return firsts.toString();
    }

    /** "its SWEEP the greatest of the points from the last one not behind its begin to that one" */
    private static void sweepFromBeginToEnd() {
        checks.due("bent at an end", "0345", stepsWithout(0, 10, -20, 30, 60));
        checks.due("bent one part behind an end", "0345", stepsWithout(0, 10, -21, 30, 60));
        checks.due("bent one part before an end", "0345", stepsWithout(0, 10, -19, 30, 60));
        checks.due("a point one part before the bent one's step", "0345", stepsWithout(0, 9, 10, -20, 30, 60));
        checks.due("no point between", "345", stepsWithout(0, -20, 30, 60));
        checks.due("the next point one part before a begin", "0345", stepsWithout(0, 10, -20, 29, 60));
        checks.due("the next point one part behind a begin", "045", stepsWithout(0, 10, -20, 31, 60));
        checks.due("no next point but the last", "0", stepsWithout(0, 10, -20, 60));
        checks.due("the last point bent", "01234", stepsWithout(0, 10, 20, 30, 40, 50, -60));
        checks.due("a bent point behind the last end", "01234", stepsWithout(0, 10, 20, 30, 40, 50, -69));
        checks.due("the point at the end goes before the bent one", "012345", stepsWithout(0, 10, 50, 60, -69));
    }

    /** The butt's point, which is the last one not behind the first begin. */
    private static void sweepOfTheButt() {
        int[][] cases = {{9, 1}, {10, 1}, {11, 2}, {20, 2}, {21, 3}};
        for (int[] want : cases) {
            BuckTables x = new BuckTables(10);
            x.stem(0, 500, 9);
            x.stem(want[0], 500, 8);
            x.stem(60, 500, 0);
            x.product(10, 10, 0, 8, 1);
            checks.due("logs behind a bent butt, next point at " + want[0], 6 - want[1], x.run());
            checks.due("the first of them, next point at " + want[0], want[1], x.log(0, 1));
        }
    }

    /** "the greatest of the points": neither the first, nor the last, nor the sum. */
    private static void greatestOfSweeps() {
        for (int bent = 0; bent < 3; bent++) {
            BuckTables x = new BuckTables(10);
            for (int i = 0; i < 3; i++) {
                x.stem(5 * i, 500, i == bent ? 7 : 4);
            }
            x.product(10, 10, 0, 6, 1);
            checks.due("point " + bent + " is too bent", 0, x.run());
            x.product(10, 10, 0, 7, 1);
            checks.due("point " + bent + " is just so", 1, x.run());
        }
    }

    /** "It is worth the product's WORTH for each of its steps, and what is wished." */
    private static void worthOfLog() {
        BuckTables x = Samples.stem(3);
        x.product(30, 30, 0, 0, 5);
        edges.planOfRun("worth of three steps", x, "0:0+3=0(15)", "", 15);
        x.wish(0, 0, 4);
        edges.planOfRun("wished once for the log", x, "0:0+3=0(19)", "", 19);
        BuckTables wished = Samples.stem(3);
        wished.product(10, 10, 0, 0, 0);
        wished.wish(0, 0, 1);
        edges.planOfRun("wished alone", wished, "0:0+1=0(1) 0:1+1=0(1) 0:2+1=0(1)", "", 3);
    }

    // A plan

    /** "behind each log that does not end its stem's steps LOSS steps are lost (those that there are)" */
    private static void lossBehindLog() {
        String[][] fuels = {
            {"", "0:2+1", "", "0:4+1"},
            {"", "", "0:3+1", ""},
            {"", "", "", "0:4+1"},
            {"", "", "", ""},
        };
        int[][] logs = {{1, 1, 2, 2, 3}, {1, 1, 1, 2, 2}, {1, 1, 1, 1, 2}, {1, 1, 1, 1, 1}};
        for (int loss = 0; loss <= 3; loss++) {
            for (int steps = 2; steps <= 5; steps++) {
                BuckTables x = Samples.stem(steps);
                x.product(20, 20, 0, 0, 1);
                x.saw(loss);
                String name = "loss " + loss + " in " + steps + " steps";
                checks.due(name, logs[loss][steps - 2], x.run());
                checks.due(name + ": fuel", fuels[loss][steps - 2], Snapshot.fuel(x));
            }
        }
        BuckTables six = Samples.stem(6);
        six.product(20, 20, 0, 0, 1);
        six.saw(3);
        edges.planOfRun("loss 3 in 6 steps", six, "0:0+2=0(2)", "0:5+1", 2);
        six.stem(70, 500, 0);
        edges.planOfRun("loss 3 in 7 steps", six, "0:0+2=0(2) 0:5+2=0(2)", "", 4);
        six.stems();
        Samples.addStem(six, 20);
        edges.planOfRun("none is lost of the next stem", six, "0:0+2=0(2) 0:5+2=0(2) 1:0+2=0(2)", "", 6);
    }

    /** "steps of FUEL (worth nothing)": nothing is lost behind them. */
    private static void nothingLostBehindFuel() {
        BuckTables x = Samples.stem(5);
        x.product(20, 20, 0, 0, 1);
        x.bars(0, 0);
        x.fault(0, 5, 0);
        x.saw(1);
        edges.planOfRun("a log right behind FUEL", x, "0:1+2=0(2)", "0:0+1 0:4+1", 2);
    }

    /** "the BEST one of all, by what it is worth; of several by the fewest logs" */
    private static void worthThenFewestLogs() {
        BuckTables x = Samples.stem(2);
        x.product(10, 10, 0, 0, 5);
        x.product(20, 20, 0, 0, 4);
        edges.planOfRun("worth before few logs", x, "0:0+1=0(5) 0:1+1=0(5)", "", 10);
        x.wish(1, 0, 1);
        edges.planOfRun("one less is less", x, "0:0+1=0(5) 0:1+1=0(5)", "", 10);
        x.wish(1, 0, 2);
        edges.planOfRun("of as much the fewest logs", x, "0:0+2=1(10)", "", 10);
        BuckTables nothing = Samples.stem(2);
        nothing.product(10, 20, 0, 0, 0);
        edges.planOfRun("a log worth nothing is one too many", nothing, "", "0:0+2", 0);
    }

    /** Worth goes first also with as many logs as there can be. */
    private static void worthBeforeMostLogs() {
        BuckTables x = Samples.stem(80);
        x.product(10, 10, 0, 0, 1);
        x.product(800, 800, 0, 0, 0);
        x.wish(1, 0, 79);
        checks.due("80 logs worth 80", 80, x.run());
        checks.due("their worth", 80, x.worth());
        x.wish(1, 0, 80);
        checks.due("one log worth 80", 1, x.run());
        checks.due("its product", 1, x.log(0, 3));
    }

    /** "80 at most": the last of 80 steps is as others are, with what is told of it. */
    private static void lastOfEightySteps() {
        BuckTables thin = Samples.length(10, 790);
        thin.stem(800, 499, 0);
        thin.product(10, 800, 500, 0, 1);
        edges.planOfRun("the last step is thin", thin, "0:0+79=0(79)", "0:79+1", 79);
        BuckTables bent = Samples.length(10, 790);
        bent.stem(800, 500, 1);
        bent.product(10, 800, 500, 0, 1);
        edges.planOfRun("the last step is bent", bent, "0:0+79=0(79)", "0:79+1", 79);
        BuckTables faulty = Samples.stem(80);
        faulty.fault(799, Samples.FAR, 0);
        faulty.product(10, 800, 500, 0, 1);
        faulty.bars(0, 0);
        edges.planOfRun("the last step has a fault", faulty, "0:0+79=0(79)", "0:79+1", 79);
        BuckTables cut = Samples.stem(80);
        cut.product(10, 800, 500, 0, 1);
        cut.force(800);
        edges.planOfRun("a cut at the last end", cut, "0:0+80=0(80)", "", 80);
        cut.force(790);
        edges.planOfRun("a cut before the last step", cut, "0:0+79=0(79) 0:79+1=0(1)", "", 80);
    }

    /** "by the first place at which one goes on otherwise: a longer log first" */
    private static void longerLogFirst() {
        BuckTables x = Samples.stem(5);
        x.product(20, 30, 0, 0, 1);
        edges.planOfRun("three and two, not two and three", x, "0:0+3=0(3) 0:3+2=0(2)", "", 5);
        BuckTables y = Samples.stem(3);
        y.product(20, 20, 0, 0, 3);
        y.product(30, 30, 0, 0, 2);
        edges.planOfRun("longer, though of the greater product", y, "0:0+3=1(6)", "", 6);
        BuckTables z = Samples.stem(4);
        z.product(10, 30, 0, 0, 1);
        edges.planOfRun("the longest of three", z, "0:0+3=0(3) 0:3+1=0(1)", "", 4);
    }

    /** "of the same length that of the lesser product" */
    private static void lesserProduct() {
        BuckTables x = Samples.stem(2);
        x.product(20, 20, 0, 0, 2);
        x.product(20, 20, 0, 0, 3);
        edges.planOfRun("worth goes first", x, "0:0+2=1(6)", "", 6);
        x.wish(0, 0, 2);
        edges.planOfRun("of as much the lesser product", x, "0:0+2=0(6)", "", 6);
        x.product(10, 20, 0, 0, 3);
        edges.planOfRun("of three the least", x, "0:0+2=0(6)", "", 6);
    }

    /** "FUEL last" */
    private static void fuelLast() {
        BuckTables x = Samples.stem(3);
        x.product(20, 20, 0, 0, 1);
        edges.planOfRun("a log, then FUEL", x, "0:0+2=0(2)", "0:2+1", 2);
        BuckTables y = Samples.stem(3);
        y.product(10, 10, 0, 0, 2);
        y.product(20, 20, 0, 0, 1);
        y.limit(0, 0);
        y.limit(1, 1000);
        y.priced(2);
        edges.plan("the same with prices", y, "0:0+2=1(2)", "0:2+1", 2);
    }

    /** "then stem by stem": in each one as if it were alone. */
    private static void stemByStem() {
        BuckTables x = Samples.stem(5);
        x.product(20, 30, 0, 0, 1);
        x.stems();
        Samples.addStem(x, 30);
        x.stems();
        Samples.addStem(x, 50);
        edges.planOfRun("each stem's own", x,
                "0:0+3=0(3) 0:3+2=0(2) 1:0+3=0(3) 2:0+3=0(3) 2:3+2=0(2)", "", 13);
    }

    public static void main(String[] args) {
        stemsInTheirOrder();
        toldOfTheLatestStem();
        stepsOfStem();
        stemIsCutOnItsDay();
        lengthOfLog();
        logOfWholeSteps();
        topOfLog();
        sweepOfLog();
        faultOfLog();
        cutOfLog();
        topOfFirstPointNotBeforeEnd();
        sweepFromBeginToEnd();
        sweepOfTheButt();
        greatestOfSweeps();
        worthOfLog();
        lossBehindLog();
        nothingLostBehindFuel();
        worthThenFewestLogs();
        worthBeforeMostLogs();
        lastOfEightySteps();
        longerLogFirst();
        lesserProduct();
        fuelLast();
        stemByStem();
        checks.end();
    }
}
