/** Promises 1 to 11: what is told, what is refused, and what throws. */
public final class TellTest {
    private static final int FAR = 10000000;
    private static final int SIZE = 100000;
    private static final int LOW = Integer.MIN_VALUE;
    private static final int HIGH = Integer.MAX_VALUE;
    private static final Checks checks = new Checks();

    /** A stem of so many steps of ten parts with a product that takes any log. */
    private static BuckTables plain(int steps) {
        BuckTables x = new BuckTables(10);
        x.stem(0, 500, 0);
        x.stem(steps * 10, 500, 0);
        x.product(1, FAR, 0, SIZE, 1);
        return x;
    }

    private static boolean isPlanned(BuckTables x) {
        return !Checks.outcome(x::worth).equals("throws.IllegalStateException");
    }

    /** What told something takes the plan away; what was refused or threw leaves it. */
    private static void told(BuckTables x, String call, boolean want, Checks.Ask act) {
        x.run();
        checks.due(call, want, act.answer());
        checks.due("a plan stands behind " + call, !want, isPlanned(x));
    }

    private static void refusedBy(BuckTables x, String call, Class<? extends RuntimeException> want, Checks.Call act) {
        x.run();
        checks.fails(call, want, act);
        checks.due("a plan stands behind " + call, true, isPlanned(x));
    }

    private static void refusedBy(BuckTables x, String call, Class<? extends RuntimeException> want, Checks.Ask act) {
        refusedBy(x, call, want, () -> act.answer() ? 1L : 0L);
    }

    private static int stepsOf(int step, int length) {
        BuckTables x = new BuckTables(step);
        x.stem(0, 1, 0);
        x.stem(length, 1, 0);
        x.run();
        return x.fuel(BuckTables.NONE, 0) == 0 ? 0 : x.fuel(0, 2);
    }

    private static void newObject() {
        checks.due("step 1", 80, stepsOf(1, 80));
        checks.due("step 0 is 1", 80, stepsOf(0, 80));
        checks.due("step 0 takes no more than 80", 0, stepsOf(0, 81));
        checks.due("least step is 1", 7, stepsOf(LOW, 7));
        checks.due("step 2", 3, stepsOf(2, 7));
        checks.due("step 65536", 80, stepsOf(65536, 80 * 65536 + 65535));
        checks.due("step 65536 takes no more than 80", 0, stepsOf(65536, 81 * 65536));
        checks.due("step 65537 is 65536", 2, stepsOf(65537, 2 * 65536));
        checks.due("greatest step is 65536", 2, stepsOf(HIGH, 2 * 65536));
        BuckTables x = new BuckTables(10);
        checks.due("a new object has no plan", false, isPlanned(x));
        checks.due("margin is 0", false, x.margin(0));
        checks.due("loss is 0", false, x.saw(0));
        checks.due("stem 0 is begun", 2, x.stems());
    }

    private static void points() {
        BuckTables x = new BuckTables(10);
        told(x, "first point not at 0", false, () -> x.stem(1, 5, 5));
        told(x, "first point", true, () -> x.stem(0, 400, 7));
        told(x, "not further", false, () -> x.stem(0, 400, 7));
        told(x, "top is greater", false, () -> x.stem(10, 401, 7));
        told(x, "same top, further by one", true, () -> x.stem(1, 400, SIZE));
        told(x, "before the last", false, () -> x.stem(0, 300, 7));
        told(x, "81 steps", false, () -> x.stem(810, 0, 7));
        told(x, "furthest place", false, () -> x.stem(FAR, 0, 7));
        told(x, "80 steps and some parts", true, () -> x.stem(809, 0, 0));
        refusedBy(x, "at -1", Checks.ARGUMENT, () -> x.stem(-1, 0, 0));
        refusedBy(x, "at too far", Checks.ARGUMENT, () -> x.stem(FAR + 1, 0, 0));
        refusedBy(x, "top -1", Checks.ARGUMENT, () -> x.stem(1, -1, 0));
        refusedBy(x, "top too great", Checks.ARGUMENT, () -> x.stem(1, SIZE + 1, 0));
        refusedBy(x, "sweep -1", Checks.ARGUMENT, () -> x.stem(1, 0, -1));
        refusedBy(x, "sweep too great", Checks.ARGUMENT, () -> x.stem(1, 0, SIZE + 1));
        refusedBy(x, "all wrong", Checks.ARGUMENT, () -> x.stem(LOW, HIGH, HIGH));
        checks.due("greatest top and sweep", true, new BuckTables(1).stem(0, SIZE, SIZE));
        BuckTables full = new BuckTables(10);
        for (int i = 0; i < 60; i++) {
            checks.due("point " + i, true, full.stem(i, 100, 0));
        }
        refusedBy(full, "point 60", Checks.STATE, () -> full.stem(100, 1, 0));
        refusedBy(full, "point 60 that would be refused", Checks.STATE, () -> full.stem(1, 1, 0));
        refusedBy(full, "point 60, wrong too", Checks.STATE, () -> full.stem(-1, 1, 0));
        full.stems();
        checks.due("a further stem has room", true, full.stem(0, 100, 0));
    }

    private static void faults() {
        BuckTables x = plain(10);
        told(x, "fault", true, () -> x.fault(5, 6, 0));
        told(x, "fault without length", false, () -> x.fault(5, 5, 0));
        told(x, "fault backwards", false, () -> x.fault(6, 5, 0));
        told(x, "greatest fault", true, () -> x.fault(0, FAR, 7));
        refusedBy(x, "from -1", Checks.ARGUMENT, () -> x.fault(-1, 5, 0));
        refusedBy(x, "from too far", Checks.ARGUMENT, () -> x.fault(FAR + 1, 5, 0));
        refusedBy(x, "to -1", Checks.ARGUMENT, () -> x.fault(0, -1, 0));
        refusedBy(x, "to too far", Checks.ARGUMENT, () -> x.fault(0, FAR + 1, 0));
        refusedBy(x, "kind -1", Checks.ARGUMENT, () -> x.fault(0, 5, -1));
        refusedBy(x, "kind 8", Checks.ARGUMENT, () -> x.fault(0, 5, 8));
        for (int i = 2; i < 20; i++) {
            checks.due("fault " + i, true, x.fault(i, i + 1, 3));
        }
        refusedBy(x, "fault 20", Checks.STATE, () -> x.fault(1, 2, 0));
        refusedBy(x, "fault 20, wrong too", Checks.STATE, () -> x.fault(1, 2, 8));
        x.stems();
        checks.due("a further stem has room", true, x.fault(1, 2, 0));
    }

    private static void stems() {
        BuckTables x = plain(10);
        for (int i = 2; i <= 6; i++) {
            x.run();
            checks.due("stem " + i, i, x.stems());
            checks.due("a plan stands behind stem " + i, false, isPlanned(x));
        }
        refusedBy(x, "stem 7", Checks.STATE, () -> x.stems());
        checks.due("the latest stem is meant", true, x.stem(0, 9, 0));
        checks.due("the latest stem ends", true, x.stem(30, 9, 0));
        checks.due("both stems are cut", 2, x.run());
        checks.due("the latest one's number", 5, x.log(1, 0));
        checks.due("the latest one's steps", 3, x.log(1, 2));
    }

    private static void products() {
        BuckTables x = new BuckTables(10);
        x.run();
        checks.due("product 0", 0, x.product(1, 1, 0, 0, 0));
        checks.due("a plan stands behind product 0", false, isPlanned(x));
        checks.due("product 1", 1, x.product(FAR, FAR, SIZE, SIZE, SIZE));
        refusedBy(x, "least length 0", Checks.ARGUMENT, () -> x.product(0, 5, 0, 0, 0));
        refusedBy(x, "least length too great", Checks.ARGUMENT, () -> x.product(FAR + 1, FAR + 1, 0, 0, 0));
        refusedBy(x, "greatest length 0", Checks.ARGUMENT, () -> x.product(1, 0, 0, 0, 0));
        refusedBy(x, "greatest length too great", Checks.ARGUMENT, () -> x.product(1, FAR + 1, 0, 0, 0));
        refusedBy(x, "least above greatest", Checks.ARGUMENT, () -> x.product(6, 5, 0, 0, 0));
        refusedBy(x, "top -1", Checks.ARGUMENT, () -> x.product(1, 5, -1, 0, 0));
        refusedBy(x, "top too great", Checks.ARGUMENT, () -> x.product(1, 5, SIZE + 1, 0, 0));
        refusedBy(x, "sweep -1", Checks.ARGUMENT, () -> x.product(1, 5, 0, -1, 0));
        refusedBy(x, "sweep too great", Checks.ARGUMENT, () -> x.product(1, 5, 0, SIZE + 1, 0));
        refusedBy(x, "worth -1", Checks.ARGUMENT, () -> x.product(1, 5, 0, 0, -1));
        refusedBy(x, "worth too great", Checks.ARGUMENT, () -> x.product(1, 5, 0, 0, SIZE + 1));
        refusedBy(x, "worth beyond int", Checks.ARGUMENT, () -> x.product(1, 5, 0, 0, 1L << 32));
        for (int i = 2; i < 8; i++) {
            checks.due("product " + i, i, x.product(1, 5, 0, 0, 1));
        }
        refusedBy(x, "product 8", Checks.STATE, () -> x.product(1, 5, 0, 0, 1));
        refusedBy(x, "product 8, wrong too", Checks.STATE, () -> x.product(0, 5, 0, 0, 1));
    }

    private static void barsAndWishesAndLimits() {
        BuckTables x = plain(10);
        told(x, "bars 0", true, () -> x.bars(0, 0));
        told(x, "bars 0 again", false, () -> x.bars(0, 0));
        told(x, "bars 7", true, () -> x.bars(0, 7));
        told(x, "wish of nothing", false, () -> x.wish(0, 0, 0));
        told(x, "wish", true, () -> x.wish(0, 0, SIZE));
        told(x, "wish again", false, () -> x.wish(0, 0, SIZE));
        told(x, "wish on day 6", true, () -> x.wish(0, 6, 1));
        told(x, "wish taken back", true, () -> x.wish(0, 6, 0));
        told(x, "limit", true, () -> x.limit(0, 0));
        told(x, "limit again", false, () -> x.limit(0, 0));
        told(x, "greatest limit", true, () -> x.limit(0, 1000));
        for (int product : new int[] {-1, 1, 8, LOW, HIGH}) {
            refusedBy(x, "bars of product " + product, Checks.INDEX, () -> x.bars(product, 0));
            refusedBy(x, "bars wrong of product " + product, Checks.INDEX, () -> x.bars(product, 8));
            refusedBy(x, "limit of product " + product, Checks.INDEX, () -> x.limit(product, 1));
            refusedBy(x, "limit wrong of product " + product, Checks.INDEX, () -> x.limit(product, -1));
            refusedBy(x, "wish of product " + product, Checks.INDEX, () -> x.wish(product, 0, 1));
            refusedBy(x, "wish wrong of product " + product, Checks.INDEX, () -> x.wish(product, 7, 1));
        }
        for (int kind : new int[] {-1, 8, LOW, HIGH}) {
            refusedBy(x, "bars kind " + kind, Checks.ARGUMENT, () -> x.bars(0, kind));
        }
        for (int day : new int[] {-1, 7, LOW, HIGH}) {
            refusedBy(x, "wish on day " + day, Checks.ARGUMENT, () -> x.wish(0, day, 1));
        }
        for (long wrong : new long[] {-1, Long.MIN_VALUE, Long.MAX_VALUE, 1L << 32}) {
            refusedBy(x, "limit " + wrong, Checks.ARGUMENT, () -> x.limit(0, wrong));
            refusedBy(x, "wish " + wrong, Checks.ARGUMENT, () -> x.wish(0, 0, wrong));
        }
        refusedBy(x, "limit 1001", Checks.ARGUMENT, () -> x.limit(0, 1001));
        refusedBy(x, "wish 100001", Checks.ARGUMENT, () -> x.wish(0, 0, SIZE + 1));
    }

    private static void forcedCuts() {
        BuckTables x = plain(10);
        told(x, "force inside a step", false, () -> x.force(5));
        told(x, "force at 0", false, () -> x.force(0));
        told(x, "force behind the end", false, () -> x.force(110));
        told(x, "force far away", false, () -> x.force(FAR));
        told(x, "force", true, () -> x.force(10));
        told(x, "force again", false, () -> x.force(10));
        told(x, "force the end", true, () -> x.force(100));
        refusedBy(x, "force -1", Checks.ARGUMENT, () -> x.force(-1));
        refusedBy(x, "force too far", Checks.ARGUMENT, () -> x.force(FAR + 1));
        refusedBy(x, "force least", Checks.ARGUMENT, () -> x.force(LOW));
        checks.due("the stem grows", true, x.stem(125, 400, 0));
        told(x, "force the new end", true, () -> x.force(120));
        checks.due("logs between the cuts", 3, x.run());
        checks.due("the last one begins at the cut of the former end", 10, x.log(2, 1));
        x.stems();
        told(x, "force an empty stem", false, () -> x.force(10));
    }

    private static void marginAndSaw() {
        BuckTables x = plain(10);
        told(x, "margin", true, () -> x.margin(SIZE));
        told(x, "margin again", false, () -> x.margin(SIZE));
        told(x, "margin back", true, () -> x.margin(0));
        told(x, "saw", true, () -> x.saw(3));
        told(x, "saw again", false, () -> x.saw(3));
        told(x, "saw back", true, () -> x.saw(0));
        for (int wrong : new int[] {-1, LOW, HIGH, SIZE + 1}) {
            refusedBy(x, "margin " + wrong, Checks.ARGUMENT, () -> x.margin(wrong));
            refusedBy(x, "saw " + wrong, Checks.ARGUMENT, () -> x.saw(wrong));
        }
        refusedBy(x, "saw 4", Checks.ARGUMENT, () -> x.saw(4));
    }

    public static void main(String[] args) {
        newObject();
        points();
        faults();
        stems();
        products();
        barsAndWishesAndLimits();
        forcedCuts();
        marginAndSaw();
        checks.end();
    }
}
