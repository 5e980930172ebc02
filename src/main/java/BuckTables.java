/**
 * Stems are cut to logs, so that all of them together are worth most; limits over all stems are kept by
 * prices in rounds, with a bound that tells how much more there could be.
 */
public final class BuckTables {
    public static final int NONE = -1;

    private static final int MOST_STEP = 65536;
    private static final int MOST_STEMS = 6;
    private static final int MOST_POINTS = 60;
    private static final int MOST_STEPS = 80;
    private static final int MOST_FAULTS = 20;
    private static final int MOST_PRODUCTS = 8;
    private static final int MOST_LOGS = MOST_STEMS * MOST_STEPS;
    private static final int KINDS = 8;
    private static final int DAYS = 7;
    private static final int MOST_PLACE = 10000000;
    private static final int MOST_SIZE = 100000;
    private static final int MOST_WORTH = 100000;
    private static final int MOST_LOSS = 3;
    private static final int MOST_LIMIT = 1000;
    private static final int MOST_ROUNDS = 10;
    private static final int FIRST_PACE = 1024;

    /** What the log rows and fuel rows of a plan tell, in the order of 'what'. */
    private static final int STEM = 0;
    private static final int FIRST = 1;
    private static final int STEPS = 2;
    private static final int PRODUCT = 3;
    private static final int LOG_WORTH = 4;
    private static final int LOG_PARTS = 5;
    private static final int FUEL_PARTS = 3;

    /** What price() tells, in the order of 'part'. */
    private static final int PRICE = 0;
    private static final int LOGS = 1;
    private static final int PRICE_PARTS = 3;

    private final Stem[] stemRows = new Stem[MOST_STEMS];
    private final Product[] productRows = new Product[MOST_PRODUCTS];
    private final Cutter cutter = new Cutter();
    private int stemCount = 1;
    private int productCount = 0;
    private int margin = 0;
    private int loss = 0;
    private Plan plan = new Plan();
    private Plan trial = new Plan();
    private boolean planned = false;
    /** The rounds told to the priced() that made the plan, 0 if run() made it. */
    private int roundsTold = 0;
    private long bound = 0;

    public BuckTables(int step) {
        int kept = Math.max(1, Math.min(step, MOST_STEP));
        for (int s = 0; s < MOST_STEMS; s++) {
            stemRows[s] = new Stem(kept);
        }
        for (int p = 0; p < MOST_PRODUCTS; p++) {
            productRows[p] = new Product(kept);
        }
    }

    public boolean stem(int at, int top, int sweep) throws IllegalStateException, IllegalArgumentException {
        Stem stem = latestStem();
        if (stem.points >= MOST_POINTS) {
            throw new IllegalStateException("there are 60 points");
        }
        if (isOutside(at, MOST_PLACE) || isOutside(top, MOST_SIZE) || isOutside(sweep, MOST_SIZE)) {
            throw new IllegalArgumentException("at, top or sweep is out of its range");
        }
        if (!stem.takesPoint(at, top)) {
            return false;
        }
        stem.addPoint(at, top, sweep);
        planned = false;
        return true;
    }

    public boolean fault(int from, int to, int kind) throws IllegalStateException, IllegalArgumentException {
        Stem stem = latestStem();
        if (stem.faults >= MOST_FAULTS) {
            throw new IllegalStateException("there are 20 faults");
        }
        if (isOutside(from, MOST_PLACE) || isOutside(to, MOST_PLACE) || isOutside(kind, KINDS - 1)) {
            throw new IllegalArgumentException("from, to or kind is out of its range");
        }
        if (to <= from) {
            return false;
        }
        stem.addFault(from, to, kind);
        planned = false;
        return true;
    }

    public int stems() throws IllegalStateException {
        if (stemCount >= MOST_STEMS) {
            throw new IllegalStateException("there are 6 stems");
        }
        stemCount++;
        planned = false;
        return stemCount;
    }

    public int product(int lengthLow, int lengthHigh, int top, int sweep, long worth)
            throws IllegalStateException, IllegalArgumentException {
        if (productCount >= MOST_PRODUCTS) {
            throw new IllegalStateException("there are 8 products");
        }
        if (lengthLow < 1 || lengthHigh > MOST_PLACE || lengthLow > lengthHigh) {
            throw new IllegalArgumentException("a length is out of its range");
        }
        if (isOutside(top, MOST_SIZE) || isOutside(sweep, MOST_SIZE) || isOutside(worth, MOST_WORTH)) {
            throw new IllegalArgumentException("top, sweep or worth is out of its range");
        }
        productRows[productCount].tell(lengthLow, lengthHigh, top, sweep, worth);
        productCount++;
        planned = false;
        return productCount - 1;
    }

    public boolean bars(int product, int kind) throws IndexOutOfBoundsException, IllegalArgumentException {
        Product told = productAt(product);
        if (isOutside(kind, KINDS - 1)) {
            throw new IllegalArgumentException("kind is not 0 .. 7");
        }
        if (told.barred[kind]) {
            return false;
        }
        told.barred[kind] = true;
        planned = false;
        return true;
    }

    public boolean force(int at) throws IllegalArgumentException {
        if (isOutside(at, MOST_PLACE)) {
            throw new IllegalArgumentException("at is not 0 .. 10000000");
        }
        if (!forceLatest(at)) {
            return false;
        }
        planned = false;
        return true;
    }

    public boolean margin(int v) throws IllegalArgumentException {
        if (isOutside(v, MOST_SIZE)) {
            throw new IllegalArgumentException("v is not 0 .. 100000");
        }
        if (margin == v) {
            return false;
        }
        margin = v;
        planned = false;
        return true;
    }

    public boolean saw(int loss) throws IllegalArgumentException {
        if (isOutside(loss, MOST_LOSS)) {
            throw new IllegalArgumentException("loss is not 0 .. 3");
        }
        if (this.loss == loss) {
            return false;
        }
        this.loss = loss;
        planned = false;
        return true;
    }

    public boolean limit(int product, long most) throws IndexOutOfBoundsException, IllegalArgumentException {
        Product told = productAt(product);
        if (isOutside(most, MOST_LIMIT)) {
            throw new IllegalArgumentException("most is not 0 .. 1000");
        }
        if (told.most == most) {
            return false;
        }
        told.most = most;
        planned = false;
        return true;
    }

    public boolean wish(int product, int day, long worth2)
            throws IndexOutOfBoundsException, IllegalArgumentException {
        Product told = productAt(product);
        if (isOutside(day, DAYS - 1) || isOutside(worth2, MOST_WORTH)) {
            throw new IllegalArgumentException("day or worth2 is out of its range");
        }
        if (told.wishes[day] == worth2) {
            return false;
        }
        told.wishes[day] = worth2;
        planned = false;
        return true;
    }

    public int run() {
        makePlain();
        return plan.logs;
    }

    public int priced(int rounds) throws IllegalArgumentException {
        if (rounds < 1 || rounds > MOST_ROUNDS) {
            throw new IllegalArgumentException("rounds are not 1 .. 10");
        }
        return makePriced(rounds);
    }

    public long worth() throws IllegalStateException {
        needPlan();
        return plan.worth;
    }

    public int log(int k, int what)
            throws IllegalStateException, IndexOutOfBoundsException, IllegalArgumentException {
        needPlan();
        needRow(k, plan.logs);
        needPart(what, LOG_PARTS);
        return k == NONE ? plan.logs : plan.tellLog(k, what);
    }

    public int fuel(int k, int what)
            throws IllegalStateException, IndexOutOfBoundsException, IllegalArgumentException {
        needPlan();
        int rows = plan.countFuelRows();
        needRow(k, rows);
        needPart(what, FUEL_PARTS);
        return k == NONE ? rows : plan.tellFuel(k, what);
    }

    public long bound() throws IllegalStateException {
        needPlan();
        return bound;
    }

    public long price(int product, int part) throws IllegalStateException, IndexOutOfBoundsException {
        needPlan();
        Product told = productAt(product);
        if (isOutside(part, PRICE_PARTS - 1)) {
            throw new IndexOutOfBoundsException("there is no such part");
        }
        if (part == PRICE) {
            return told.price;
        }
        return part == LOGS ? plan.logsOf[product] : told.most;
    }

    public int override(int at) throws IllegalStateException, IllegalArgumentException {
        needPlan();
        if (!forceLatest(at)) {
            throw new IllegalArgumentException("at is no end of a step, or was forced");
        }
        long before = plan.worth;
        if (roundsTold == 0) {
            makePlain();
        } else {
            makePriced(roundsTold);
        }
        return (int) (before - plan.worth);
    }

    public boolean greatest() throws IllegalStateException {
        needPlan();
        return plan.worth == bound;
    }

    private static boolean isOutside(long number, long most) {
        return number < 0 || number > most;
    }

    private Stem latestStem() {
        return stemRows[stemCount - 1];
    }

    private Product productAt(int product) {
        if (isOutside(product, productCount - 1)) {
            throw new IndexOutOfBoundsException("there is no such product");
        }
        return productRows[product];
    }

    private void needPlan() {
        if (!planned) {
            throw new IllegalStateException("no plan was made since something was told");
        }
    }

    private static void needRow(int k, int rows) {
        if (k != NONE && isOutside(k, rows - 1)) {
            throw new IndexOutOfBoundsException("there is no such row of the plan");
        }
    }

    private static void needPart(int what, int parts) {
        if (isOutside(what, parts - 1)) {
            throw new IllegalArgumentException("there is no such what");
        }
    }

    private boolean forceLatest(int at) {
        Stem stem = latestStem();
        int end = stem.endAt(at);
        if (end == NONE || stem.forced[end]) {
            return false;
        }
        stem.forced[end] = true;
        return true;
    }

    private void makePlain() {
        startPlans();
        cutAll(plan);
        bound = plan.worth;
        roundsTold = 0;
        planned = true;
    }

    /** Answers how many rounds there were. */
    private int makePriced(int rounds) {
        startPlans();
        Plan made = trial;
        boolean found = false;
        boolean settled = false;
        int round = 0;
        while (round < rounds && !settled) {
            if (round > 0) {
                changePrices(made, round);
            }
            round++;
            made = trial;
            cutAll(made);
            long value = valueOf(made);
            bound = round == 1 ? value : Math.min(bound, value);
            boolean holds = limitsHold(made);
            settled = holds && pricesAreUsed(made);
            if (holds && (!found || made.worth > plan.worth)) {
                keepTrial();
                found = true;
            }
        }
        if (!found) {
            made.burnBeyondLimits(productRows);
            keepTrial();
        }
        roundsTold = rounds;
        planned = true;
        return round;
    }

    /** Changes places, so that no round makes a new plan. */
    private void keepTrial() {
        Plan spare = plan;
        plan = trial;
        trial = spare;
    }

    /** The stems' tables hold for all rounds, as prices don't tell which logs may be. */
    private void startPlans() {
        for (int p = 0; p < productCount; p++) {
            productRows[p].price = 0;
        }
        for (int s = 0; s < stemCount; s++) {
            for (int p = 0; p < productCount; p++) {
                stemRows[s].findReach(p, productRows[p], margin);
            }
        }
    }

    private void cutAll(Plan made) {
        made.clear();
        for (int s = 0; s < stemCount; s++) {
            cutter.workOut(stemRows[s], s, productRows, productCount, loss);
            cutter.writeTo(made, stemRows[s], s, productRows, loss);
        }
    }

    private long valueOf(Plan made) {
        long value = made.worth;
        for (int p = 0; p < productCount; p++) {
            Product product = productRows[p];
            if (product.hasLimit()) {
                value += product.price * (product.most - made.logsOf[p]);
            }
        }
        return value;
    }

    private boolean limitsHold(Plan made) {
        for (int p = 0; p < productCount; p++) {
            if (productRows[p].isBeyond(made.logsOf[p])) {
                return false;
            }
        }
        return true;
    }

    private boolean pricesAreUsed(Plan made) {
        for (int p = 0; p < productCount; p++) {
            Product product = productRows[p];
            if (product.price > 0 && made.logsOf[p] != product.most) {
                return false;
            }
        }
        return true;
    }

    private void changePrices(Plan made, int round) {
        long pace = Math.max(1, FIRST_PACE / Math.max(1, round));
        for (int p = 0; p < productCount; p++) {
            Product product = productRows[p];
            if (product.hasLimit()) {
                long changed = product.price + (made.logsOf[p] - product.most) * pace;
                product.price = Math.max(0, changed);
            }
        }
    }

    /** What is told of a stem, and how far logs may go in it. */
    private static final class Stem {
        final int step;
        final int[] places = new int[MOST_POINTS];
        final int[] tops = new int[MOST_POINTS];
        final int[] sweeps = new int[MOST_POINTS];
        final int[] faultFroms = new int[MOST_FAULTS];
        final int[] faultTos = new int[MOST_FAULTS];
        final int[] faultKinds = new int[MOST_FAULTS];
        final boolean[] forced = new boolean[MOST_STEPS + 1];
        /** By product and begin: the furthest end of a log; none may be, if that is not far enough. */
        final int[][] reach = new int[MOST_PRODUCTS][MOST_STEPS];
        int points = 0;
        int faults = 0;
        int steps = 0;

        Stem(int step) {
            this.step = Math.max(1, step);
        }

        boolean takesPoint(int at, int top) {
            if (at / step > MOST_STEPS) {
                return false;
            }
            if (points == 0) {
                return at == 0;
            }
            return at > places[points - 1] && top <= tops[points - 1];
        }

        void addPoint(int at, int top, int sweep) {
            places[points] = at;
            tops[points] = top;
            sweeps[points] = sweep;
            points++;
            steps = at / step;
        }

        void addFault(int from, int to, int kind) {
            faultFroms[faults] = from;
            faultTos[faults] = to;
            faultKinds[faults] = kind;
            faults++;
        }

        /** The step's end at a place, counted in steps, or NONE. */
        int endAt(int at) {
            boolean isEnd = at > 0 && at % step == 0 && at / step <= steps;
            return isEnd ? at / step : NONE;
        }

        /** A further begin never reaches less far: the cutter's windows rest on that. */
        void findReach(int number, Product product, int margin) {
            int[] ends = reach[number];
            reachByLengthAndCuts(ends, product);
            narrowByPoints(ends, product, margin);
            narrowByFaults(ends, product);
        }

        private void reachByLengthAndCuts(int[] ends, Product product) {
            int cut = steps;
            for (int begin = steps - 1; begin >= 0; begin--) {
                if (forced[begin + 1]) {
                    cut = begin + 1;
                }
                ends[begin] = Math.min(cut, begin + product.mostSteps);
            }
        }

        /** Tops never grow, so behind a point that is too bad no log with that point in it can end. */
        private void narrowByPoints(int[] ends, Product product, int margin) {
            int point = points;
            int bad = points;
            for (int begin = steps - 1; begin >= 0; begin--) {
                while (point > 0 && (point == points || places[point] > begin * step)) {
                    point--;
                    if (isTooBad(point, product, margin)) {
                        bad = point;
                    }
                }
                if (bad == point) {
                    ends[begin] = Math.min(ends[begin], begin);
                } else if (bad < points) {
                    ends[begin] = Math.min(ends[begin], places[bad - 1] / step);
                }
            }
        }

        private boolean isTooBad(int point, Product product, int margin) {
            return tops[point] - margin < product.top || sweeps[point] + margin > product.sweep;
        }

        private void narrowByFaults(int[] ends, Product product) {
            for (int f = 0; f < faults; f++) {
                if (product.barred[faultKinds[f]]) {
                    for (int begin = 0; begin < steps && begin * step < faultTos[f]; begin++) {
                        ends[begin] = Math.min(ends[begin], faultFroms[f] / step);
                    }
                }
            }
        }
    }

    /** What is told of a product, and its price in the latest round. */
    private static final class Product {
        final int step;
        final boolean[] barred = new boolean[KINDS];
        final long[] wishes = new long[DAYS];
        int leastSteps = 0;
        int mostSteps = 0;
        int top = 0;
        int sweep = 0;
        long worth = 0;
        long most = NONE;
        long price = 0;

        Product(int step) {
            this.step = Math.max(1, step);
        }

        void tell(int lengthLow, int lengthHigh, int top, int sweep, long worth) {
            leastSteps = (lengthLow + step - 1) / step;
            mostSteps = lengthHigh / step;
            this.top = top;
            this.sweep = sweep;
            this.worth = worth;
        }

        boolean hasLimit() {
            return most != NONE;
        }

        boolean isBeyond(int logs) {
            return hasLimit() && logs > most;
        }

        long trueWorth(int steps, int day) {
            return worth * steps + wishes[day];
        }
    }

    /**
     * The ends that logs of one product may have while their begin goes down step by step, each with a rank
     * that holds the end in its last digit; those that can never be the best any more are left out, so the
     * first one is the best.
     */
    private static final class Window {
        final long[] ranks = new long[MOST_STEPS];
        int first = 0;
        int behind = 0;

        void clear() {
            first = 0;
            behind = 0;
        }

        /** Ends come in nearer and nearer and the furthest leave first, so a lower rank further away is of no use. */
        void enter(long rank) {
            while (behind > first && ranks[behind - 1] < rank) {
                behind--;
            }
            if (behind < ranks.length) {
                ranks[behind] = rank;
                behind++;
            }
        }

        void leaveBeyond(int reach) {
            while (first < behind && Cutter.endOf(ranks[first]) > reach) {
                first++;
            }
        }
    }

    /**
     * Works out the best plan of one stem, from its end to its butt. A rank is one number that orders as the
     * document does: worth first, then fewest logs, then, in the last digit, the longest log; FUEL has its
     * begin there, so any log goes before it.
     */
    private static final class Cutter {
        /** One digit of a rank: above all numbers of logs and of steps of a stem. */
        static final long DIGIT = 128;
        /** Below every rank of FUEL. */
        static final long NO_LOG = -1;

        /** By begin, the rank of all that follows, without the last digit. */
        final long[] rests = new long[MOST_STEPS + 1];
        final int[] ends = new int[MOST_STEPS];
        final int[] products = new int[MOST_STEPS];
        final Window[] windows = new Window[MOST_PRODUCTS];

        Cutter() {
            for (int p = 0; p < MOST_PRODUCTS; p++) {
                windows[p] = new Window();
            }
        }

        static int endOf(long rank) {
            return (int) Math.floorMod(rank, DIGIT);
        }

        void workOut(Stem stem, int day, Product[] told, int count, int loss) {
            for (int p = 0; p < count; p++) {
                windows[p].clear();
            }
            rests[stem.steps] = 0;
            for (int begin = stem.steps - 1; begin >= 0; begin--) {
                long best = rests[begin + 1] * DIGIT + begin;
                products[begin] = NONE;
                for (int p = 0; p < count; p++) {
                    letEndIn(stem, windows[p], told[p], begin, loss);
                    windows[p].leaveBeyond(stem.reach[p][begin]);
                    long rank = rankOfBest(windows[p], told[p], begin, day);
                    if (rank > best) {
                        best = rank;
                        products[begin] = p;
                    }
                }
                rests[begin] = Math.floorDiv(best, DIGIT);
                ends[begin] = endOf(best);
            }
        }

        private void letEndIn(Stem stem, Window window, Product product, int begin, int loss) {
            int end = begin + product.leastSteps;
            if (end <= stem.steps) {
                long rest = rests[Math.min(end + loss, stem.steps)];
                window.enter((product.worth * end * DIGIT + rest) * DIGIT + end);
            }
        }

        /** Ranks in a window count the worth of steps from the butt on, so that they hold for every begin. */
        private static long rankOfBest(Window window, Product product, int begin, int day) {
            if (window.first >= window.behind) {
                return NO_LOG;
            }
            long own = product.wishes[day] - product.price - product.worth * begin;
            return window.ranks[window.first] + (own * DIGIT - 1) * DIGIT;
        }

        void writeTo(Plan plan, Stem stem, int number, Product[] told, int loss) {
            int free = 0;
            for (int at = 0; at < stem.steps; at++) {
                if (at >= free && products[at] == NONE) {
                    plan.burn(number, at, 1);
                } else if (at >= free) {
                    int steps = ends[at] - at;
                    plan.addLog(number, at, steps, products[at], told[products[at]].trueWorth(steps, number));
                    free = ends[at] + loss;
                }
            }
        }
    }

    /** Logs and FUEL of all stems. */
    private static final class Plan {
        final int[] rows = new int[MOST_LOGS * LOG_PARTS];
        final boolean[] fuel = new boolean[MOST_STEMS * MOST_STEPS];
        final int[] logsOf = new int[MOST_PRODUCTS];
        int logs = 0;
        long worth = 0;

        void clear() {
            for (int i = 0; i < fuel.length; i++) {
                fuel[i] = false;
            }
            for (int p = 0; p < MOST_PRODUCTS; p++) {
                logsOf[p] = 0;
            }
            logs = 0;
            worth = 0;
        }

        void addLog(int stem, int first, int steps, int product, long logWorth) {
            int row = logs * LOG_PARTS;
            rows[row + STEM] = stem;
            rows[row + FIRST] = first;
            rows[row + STEPS] = steps;
            rows[row + PRODUCT] = product;
            rows[row + LOG_WORTH] = (int) logWorth;
            logs++;
            logsOf[product]++;
            worth += logWorth;
        }

        void burn(int stem, int first, int steps) {
            for (int at = first; at < first + steps; at++) {
                fuel[stem * MOST_STEPS + at] = true;
            }
        }

        /** From the last log on, as the latest ones are given up first. */
        void burnBeyondLimits(Product[] told) {
            for (int k = logs - 1; k >= 0; k--) {
                int product = tellLog(k, PRODUCT);
                if (told[product].isBeyond(logsOf[product])) {
                    burn(tellLog(k, STEM), tellLog(k, FIRST), tellLog(k, STEPS));
                    logsOf[product]--;
                    worth -= tellLog(k, LOG_WORTH);
                    rows[k * LOG_PARTS + PRODUCT] = NONE;
                }
            }
            closeGaps();
        }

        private void closeGaps() {
            int kept = 0;
            for (int k = 0; k < logs; k++) {
                if (tellLog(k, PRODUCT) != NONE) {
                    System.arraycopy(rows, k * LOG_PARTS, rows, kept * LOG_PARTS, LOG_PARTS);
                    kept++;
                }
            }
            logs = kept;
        }

        int tellLog(int k, int what) {
            return rows[k * LOG_PARTS + what];
        }

        int countFuelRows() {
            int count = 0;
            for (int i = 0; i < fuel.length; i++) {
                if (beginsFuelRow(i)) {
                    count++;
                }
            }
            return count;
        }

        int tellFuel(int k, int what) {
            int begin = fuelRowBegin(k);
            if (what == STEM) {
                return begin / MOST_STEPS;
            }
            return what == FIRST ? begin % MOST_STEPS : fuelRowSteps(begin);
        }

        private boolean beginsFuelRow(int i) {
            return fuel[i] && (i % MOST_STEPS == 0 || !fuel[i - 1]);
        }

        private int fuelRowBegin(int k) {
            int seen = 0;
            for (int i = 0; i < fuel.length; i++) {
                if (beginsFuelRow(i)) {
                    if (seen == k) {
                        return i;
                    }
                    seen++;
                }
            }
            return 0;
        }

        private int fuelRowSteps(int begin) {
            int end = begin + 1;
            while (end < fuel.length && end % MOST_STEPS != 0 && fuel[end]) {
                end++;
            }
            return end - begin;
        }
    }
}
