import java.util.ArrayList;
import java.util.List;

/** The document's words, one by one and without any speed: what OracleTest holds BuckTables against. */
final class Naive {
    record Point(int at, int top, int sweep) {}

    record Fault(int from, int to, int kind) {}

    /** A log, or a step of FUEL (product NONE). */
    record Piece(int first, int end, int product) {}

    record Log(int stem, int first, int steps, int product, long worth) {}

    static final class Stem {
        final List<Point> points = new ArrayList<>();
        final List<Fault> faults = new ArrayList<>();
        final List<Integer> forced = new ArrayList<>();
    }

    static final class Product {
        int low;
        int high;
        int top;
        int sweep;
        long worth;
        long limit = -1;
        long price = 0;
        final boolean[] bars = new boolean[8];
        final long[] wishes = new long[7];
    }

    /** A way to cut one stem from some step on. */
    static final class Way {
        long worth = 0;
        int logs = 0;
        final List<Piece> pieces = new ArrayList<>();
    }

    static final class Plan {
        final List<Log> logs = new ArrayList<>();
        final char[][] steps;
        long pricedWorth = 0;

        Plan(int stems) {
            steps = new char[stems][];
        }

        long worth() {
            return logs.stream().mapToLong(Log::worth).sum();
        }

        long count(int product) {
            return logs.stream().filter(l -> l.product() == product).count();
        }
    }

    final int step;
    final List<Stem> stems = new ArrayList<>();
    final List<Product> products = new ArrayList<>();
    int margin = 0;
    int loss = 0;
    Plan plan = null;
    long bound = 0;
    int rounds = 0;

    Naive(int step) {
        this.step = step < 1 ? 1 : step > 65536 ? 65536 : step;
        stems.add(new Stem());
    }

    private static void state(boolean ok) {
        if (!ok) {
            throw new IllegalStateException();
        }
    }

    private static void index(boolean ok) {
        if (!ok) {
            throw new IndexOutOfBoundsException();
        }
    }

    private static void argument(boolean ok) {
        if (!ok) {
            throw new IllegalArgumentException();
        }
    }

    private static boolean in(long v, long low, long high) {
        return low <= v && v <= high;
    }

    private Stem latest() {
        return stems.get(stems.size() - 1);
    }

    private boolean told() {
        plan = null;
        return true;
    }

    int length(Stem s) {
        return s.points.isEmpty() ? 0 : s.points.get(s.points.size() - 1).at();
    }

    int steps(Stem s) {
        return length(s) / step;
    }

    boolean stem(int at, int top, int sweep) {
        Stem s = latest();
        state(s.points.size() < 60);
        argument(in(at, 0, 10000000) && in(top, 0, 100000) && in(sweep, 0, 100000));
        if (at / step > 80) {
            return false;
        }
        if (s.points.isEmpty()) {
            if (at != 0) {
                return false;
            }
        } else if (at <= length(s) || top > s.points.get(s.points.size() - 1).top()) {
            return false;
        }
        s.points.add(new Point(at, top, sweep));
        return told();
    }

    boolean fault(int from, int to, int kind) {
        state(latest().faults.size() < 20);
        argument(in(from, 0, 10000000) && in(to, 0, 10000000) && in(kind, 0, 7));
        if (to <= from) {
            return false;
        }
        latest().faults.add(new Fault(from, to, kind));
        return told();
    }

    int stems() {
        state(stems.size() < 6);
        stems.add(new Stem());
        told();
        return stems.size();
    }

    int product(int low, int high, int top, int sweep, long worth) {
        state(products.size() < 8);
        argument(in(low, 1, 10000000) && in(high, 1, 10000000) && low <= high);
        argument(in(top, 0, 100000) && in(sweep, 0, 100000) && in(worth, 0, 100000));
        Product p = new Product();
        p.low = low;
        p.high = high;
        p.top = top;
        p.sweep = sweep;
        p.worth = worth;
        products.add(p);
        told();
        return products.size() - 1;
    }

    private Product find(int product) {
        index(in(product, 0, products.size() - 1));
        return products.get(product);
    }

    boolean bars(int product, int kind) {
        Product p = find(product);
        argument(in(kind, 0, 7));
        if (p.bars[kind]) {
            return false;
        }
        p.bars[kind] = true;
        return told();
    }

    private boolean canForce(int at) {
        return at > 0 && at % step == 0 && at <= length(latest()) && !latest().forced.contains(at);
    }

    boolean force(int at) {
        argument(in(at, 0, 10000000));
        if (!canForce(at)) {
            return false;
        }
        latest().forced.add(at);
        return told();
    }

    boolean margin(int v) {
        argument(in(v, 0, 100000));
        if (margin == v) {
            return false;
        }
        margin = v;
        return told();
    }

    boolean saw(int v) {
        argument(in(v, 0, 3));
        if (loss == v) {
            return false;
        }
        loss = v;
        return told();
    }

    boolean limit(int product, long most) {
        Product p = find(product);
        argument(in(most, 0, 1000));
        if (p.limit == most) {
            return false;
        }
        p.limit = most;
        return told();
    }

    boolean wish(int product, int day, long worth) {
        Product p = find(product);
        argument(in(day, 0, 6) && in(worth, 0, 100000));
        if (p.wishes[day] == worth) {
            return false;
        }
        p.wishes[day] = worth;
        return told();
    }

    boolean mayBe(Stem s, int first, int end, Product p) {
        int begins = first * step;
        int ends = end * step;
        if (ends - begins < p.low || ends - begins > p.high) {
            return false;
        }
        int last = 0;
        while (s.points.get(last).at() < ends) {
            last++;
        }
        int from = last;
        while (s.points.get(from).at() > begins) {
            from--;
        }
        int sweep = 0;
        for (int i = from; i <= last; i++) {
            sweep = Math.max(sweep, s.points.get(i).sweep());
        }
        if (s.points.get(last).top() - margin < p.top || sweep + margin > p.sweep) {
            return false;
        }
        for (Fault f : s.faults) {
            if (p.bars[f.kind()] && f.from() < ends && f.to() > begins) {
                return false;
            }
        }
        for (int cut : s.forced) {
            if (begins < cut && cut < ends) {
                return false;
            }
        }
        return true;
    }

    /** Below 0: a goes before b, as the document orders the ways of one stem. */
    static int order(Way a, Way b) {
        if (a.worth != b.worth) {
            return a.worth > b.worth ? -1 : 1;
        }
        if (a.logs != b.logs) {
            return a.logs < b.logs ? -1 : 1;
        }
        for (int i = 0; i < a.pieces.size() && i < b.pieces.size(); i++) {
            Piece x = a.pieces.get(i);
            Piece y = b.pieces.get(i);
            if (!x.equals(y)) {
                if (x.product() < 0 || y.product() < 0) {
                    return x.product() < 0 ? 1 : -1;
                }
                return x.end() != y.end() ? y.end() - x.end() : x.product() - y.product();
            }
        }
        return 0;
    }

    private Way goOn(Piece piece, long worth, Way rest) {
        Way way = new Way();
        way.worth = rest.worth + worth;
        way.logs = rest.logs + (piece.product() < 0 ? 0 : 1);
        way.pieces.add(piece);
        way.pieces.addAll(rest.pieces);
        return way;
    }

    int behind(Stem s, int end) {
        return Math.min(end + loss, steps(s));
    }

    private Way bestWay(int number) {
        Stem s = stems.get(number);
        int n = steps(s);
        Way[] best = new Way[n + 1];
        best[n] = new Way();
        for (int first = n - 1; first >= 0; first--) {
            best[first] = goOn(new Piece(first, first + 1, -1), 0, best[first + 1]);
            for (int p = 0; p < products.size(); p++) {
                Product product = products.get(p);
                for (int end = first + 1; end <= n; end++) {
                    if (mayBe(s, first, end, product)) {
                        long worth = worthOf(product, end - first, number) - product.price;
                        Way way = goOn(new Piece(first, end, p), worth, best[behind(s, end)]);
                        if (order(way, best[first]) < 0) {
                            best[first] = way;
                        }
                    }
                }
            }
        }
        return best[0];
    }

    static long worthOf(Product product, int steps, int day) {
        return product.worth * steps + product.wishes[day];
    }

    private Plan bestPlan() {
        Plan made = new Plan(stems.size());
        for (int number = 0; number < stems.size(); number++) {
            Stem s = stems.get(number);
            Way way = bestWay(number);
            made.pricedWorth += way.worth;
            made.steps[number] = new char[steps(s)];
            java.util.Arrays.fill(made.steps[number], 'x');
            for (Piece piece : way.pieces) {
                boolean fuel = piece.product() < 0;
                for (int i = piece.first(); i < piece.end(); i++) {
                    made.steps[number][i] = fuel ? 'f' : 'l';
                }
                if (!fuel) {
                    int steps = piece.end() - piece.first();
                    long worth = worthOf(products.get(piece.product()), steps, number);
                    made.logs.add(new Log(number, piece.first(), steps, piece.product(), worth));
                }
            }
        }
        return made;
    }

    int run() {
        for (Product p : products) {
            p.price = 0;
        }
        plan = bestPlan();
        bound = plan.worth();
        rounds = 0;
        return plan.logs.size();
    }

    private boolean holds(Plan made) {
        for (int p = 0; p < products.size(); p++) {
            if (products.get(p).limit >= 0 && made.count(p) > products.get(p).limit) {
                return false;
            }
        }
        return true;
    }

    private boolean ends(Plan made) {
        for (int p = 0; p < products.size(); p++) {
            if (products.get(p).price > 0 && made.count(p) != products.get(p).limit) {
                return false;
            }
        }
        return holds(made);
    }

    private void burn(Plan made) {
        for (int p = 0; p < products.size(); p++) {
            for (int k = made.logs.size() - 1; k >= 0; k--) {
                Log log = made.logs.get(k);
                long limit = products.get(p).limit;
                if (log.product() == p && limit >= 0 && made.count(p) > limit) {
                    made.logs.remove(k);
                    for (int i = 0; i < log.steps(); i++) {
                        made.steps[log.stem()][log.first() + i] = 'f';
                    }
                }
            }
        }
    }

    int priced(int most) {
        argument(in(most, 1, 10));
        long[] prices = new long[products.size()];
        List<Plan> plans = new ArrayList<>();
        long least = Long.MAX_VALUE;
        for (int r = 1; r <= most; r++) {
            for (int p = 0; p < prices.length; p++) {
                products.get(p).price = prices[p];
            }
            Plan made = bestPlan();
            plans.add(made);
            long value = made.pricedWorth;
            for (int p = 0; p < prices.length; p++) {
                long limit = products.get(p).limit;
                if (limit >= 0) {
                    value += prices[p] * limit;
                    long pace = Math.max(1, 1024 / r);
                    prices[p] = Math.max(0, prices[p] + (made.count(p) - limit) * pace);
                }
            }
            least = Math.min(least, value);
            if (ends(made)) {
                break;
            }
        }
        Plan chosen = null;
        for (Plan made : plans) {
            if (holds(made) && (chosen == null || made.worth() > chosen.worth())) {
                chosen = made;
            }
        }
        if (chosen == null) {
            chosen = plans.get(plans.size() - 1);
            burn(chosen);
        }
        plan = chosen;
        bound = least;
        rounds = most;
        return plans.size();
    }

    long worth() {
        state(plan != null);
        return plan.worth();
    }

    int log(int k, int what) {
        state(plan != null);
        index(in(k, -1, plan.logs.size() - 1));
        argument(in(what, 0, 4));
        if (k == -1) {
            return plan.logs.size();
        }
        Log log = plan.logs.get(k);
        return new int[] {log.stem(), log.first(), log.steps(), log.product(), (int) log.worth()}[what];
    }

    int fuel(int k, int what) {
        state(plan != null);
        List<int[]> rows = new ArrayList<>();
        for (int s = 0; s < stems.size(); s++) {
            for (int i = 0; i < plan.steps[s].length; i++) {
                if (plan.steps[s][i] == 'f') {
                    if (i > 0 && plan.steps[s][i - 1] == 'f') {
                        rows.get(rows.size() - 1)[2]++;
                    } else {
                        rows.add(new int[] {s, i, 1});
                    }
                }
            }
        }
        index(in(k, -1, rows.size() - 1));
        argument(in(what, 0, 2));
        return k == -1 ? rows.size() : rows.get(k)[what];
    }

    long bound() {
        state(plan != null);
        return bound;
    }

    long price(int product, int part) {
        state(plan != null);
        Product p = find(product);
        index(in(part, 0, 2));
        return part == 0 ? p.price : part == 1 ? plan.count(product) : p.limit;
    }

    int override(int at) {
        state(plan != null);
        argument(canForce(at));
        long before = plan.worth();
        latest().forced.add(at);
        if (rounds == 0) {
            run();
        } else {
            priced(rounds);
        }
        return (int) (before - plan.worth());
    }

    boolean greatest() {
        state(plan != null);
        return plan.worth() == bound;
    }
}
