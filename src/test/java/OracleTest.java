import java.util.ArrayList;
import java.util.Arrays;
import java.util.HashMap;
import java.util.List;
import java.util.Map;
import java.util.Random;
import java.util.TreeSet;

/**
 * Holds BuckTables against the naive one in runs of mixed calls and on objects as full as they can be, and against
 * all plans there are of small stems.
 */
public final class OracleTest {
    private static final Checks checks = new Checks();
    private static final int[] EDGES = {
        Integer.MIN_VALUE, -2, -1, 0, 1, 2, 3, 4, 5, 6, 7, 8, 9, 10, 11, 60, 80, 81, 1000, 1001,
        65536, 65537, 100000, 100001, 10000000, 10000001, Integer.MAX_VALUE,
    };

    private final Random random;
    private final String name;
    private final int step;
    private final BuckTables x;
    private final Naive naive;
    /** How greatly worths differ: little, so that there are ties, or much, so that prices matter. */
    private final int worths;
    private final int longest;
    private int furthest = 0;
    private int top = 900;

    OracleTest(int seed) {
        random = new Random(seed);
        name = "run " + seed;
        int[] steps = {1, 1, 2, 3, 10, 100, 65536, 0, -5, 70000};
        step = Math.max(1, Math.min(65536, steps[seed % steps.length]));
        x = new BuckTables(steps[seed % steps.length]);
        naive = new Naive(steps[seed % steps.length]);
        worths = new int[] {3, 10, 500, 3000, 100000}[random.nextInt(5)];
        longest = new int[] {6, 15, 40, 80}[random.nextInt(4)];
    }

    private int wild(int usual) {
        return random.nextInt(40) == 0 ? EDGES[random.nextInt(EDGES.length)] : usual;
    }

    private int upTo(int most) {
        return random.nextInt(most + 1);
    }

    private void same(String call, Checks.Call want, Checks.Call got) {
        checks.due(name + ": " + call, Checks.outcome(want), Checks.outcome(got));
    }

    private static long bit(boolean answer) {
        return answer ? 1 : 0;
    }

    private void point() {
        int at = wild(furthest == 0 && random.nextInt(3) > 0 ? 0 : furthest + upTo(step * Math.max(1, longest / 3)));
        int t = wild(Math.max(0, top - upTo(60) + (random.nextInt(15) == 0 ? 70 : 0)));
        int sweep = wild(random.nextInt(3) == 0 ? upTo(12) : 0);
        same("stem(" + at + ", " + t + ", " + sweep + ")", () -> bit(naive.stem(at, t, sweep)),
                () -> bit(x.stem(at, t, sweep)));
        Naive.Stem latest = naive.stems.get(naive.stems.size() - 1);
        furthest = naive.length(latest);
        top = latest.points.isEmpty() ? 900 : latest.points.get(latest.points.size() - 1).top();
    }

    private void fault() {
        int from = wild(upTo(step * longest));
        int to = wild(from + upTo(step * 3));
        int kind = wild(upTo(7));
        same("fault(" + from + ", " + to + ", " + kind + ")", () -> bit(naive.fault(from, to, kind)),
                () -> bit(x.fault(from, to, kind)));
    }

    private void product() {
        int low = wild(1 + upTo(step * Math.max(1, longest / 4)));
        int high = wild(low + upTo(step * Math.max(1, longest / 3)));
        int least = wild(upTo(800));
        int sweep = wild(upTo(15));
        int worth = wild(upTo(worths));
        same("product(" + low + ", " + high + ", " + least + ", " + sweep + ", " + worth + ")",
                () -> naive.product(low, high, least, sweep, worth), () -> x.product(low, high, least, sweep, worth));
    }

    private int someProduct() {
        return wild(upTo(Math.max(0, naive.products.size() - 1)));
    }

    private void tellOfProduct() {
        int product = someProduct();
        int kind = wild(upTo(7));
        int day = wild(upTo(6));
        int worth = wild(upTo(worths));
        int most = wild(upTo(random.nextBoolean() ? 3 : 12));
        switch (random.nextInt(3)) {
            case 0 -> same("bars(" + product + ", " + kind + ")", () -> bit(naive.bars(product, kind)),
                    () -> bit(x.bars(product, kind)));
            case 1 -> same("limit(" + product + ", " + most + ")", () -> bit(naive.limit(product, most)),
                    () -> bit(x.limit(product, most)));
            default -> same("wish(" + product + ", " + day + ", " + worth + ")",
                    () -> bit(naive.wish(product, day, worth)), () -> bit(x.wish(product, day, worth)));
        }
    }

    private void tellOfAll() {
        int v = wild(upTo(4));
        int loss = wild(upTo(3));
        if (random.nextBoolean()) {
            same("margin(" + v + ")", () -> bit(naive.margin(v)), () -> bit(x.margin(v)));
        } else {
            same("saw(" + loss + ")", () -> bit(naive.saw(loss)), () -> bit(x.saw(loss)));
        }
    }

    private int somePlace() {
        return wild(random.nextInt(6) == 0 ? upTo(furthest + 3) : upTo(longest) * step);
    }

    private void make() {
        int rounds = wild(1 + upTo(9));
        if (random.nextInt(3) == 0) {
            same("run()", naive::run, x::run);
        } else {
            same("priced(" + rounds + ")", () -> naive.priced(rounds), () -> x.priced(rounds));
        }
    }

    private void look() {
        same("worth()", naive::worth, x::worth);
        same("bound()", naive::bound, x::bound);
        same("greatest()", () -> bit(naive.greatest()), () -> bit(x.greatest()));
        int k = wild(upTo(30));
        int what = wild(upTo(5));
        same("log(" + k + ", " + what + ")", () -> naive.log(k, what), () -> x.log(k, what));
        same("fuel(" + k + ", " + what + ")", () -> naive.fuel(k, what), () -> x.fuel(k, what));
        int product = someProduct();
        same("price(" + product + ", " + what + ")", () -> naive.price(product, what), () -> x.price(product, what));
    }

    private void lookAtAll() {
        if (naive.plan == null) {
            return;
        }
        same("log(-1, 0)", () -> naive.log(-1, 0), () -> x.log(-1, 0));
        for (int k = 0; k < naive.plan.logs.size(); k++) {
            for (int what = 0; what < 5; what++) {
                int row = k;
                int part = what;
                same("log(" + k + ", " + what + ")", () -> naive.log(row, part), () -> x.log(row, part));
            }
        }
        same("fuel(-1, 0)", () -> naive.fuel(-1, 0), () -> x.fuel(-1, 0));
        for (int k = 0; k < naive.fuel(-1, 0); k++) {
            for (int what = 0; what < 3; what++) {
                int row = k;
                int part = what;
                same("fuel(" + k + ", " + what + ")", () -> naive.fuel(row, part), () -> x.fuel(row, part));
            }
        }
        for (int p = 0; p < naive.products.size(); p++) {
            for (int part = 0; part < 3; part++) {
                int product = p;
                int which = part;
                same("price(" + p + ", " + part + ")", () -> naive.price(product, which),
                        () -> x.price(product, which));
            }
        }
        same("worth()", naive::worth, x::worth);
        same("bound()", naive::bound, x::bound);
        same("greatest()", () -> bit(naive.greatest()), () -> bit(x.greatest()));
    }

    private void cut() {
        int at = somePlace();
        if (random.nextBoolean()) {
            same("force(" + at + ")", () -> bit(naive.force(at)), () -> bit(x.force(at)));
        } else {
            same("override(" + at + ")", () -> naive.override(at), () -> x.override(at));
        }
    }

    private void mixedCalls(int calls) {
        for (int i = 0; i < calls; i++) {
            int kind = random.nextInt(20);
            if (kind < 6) {
                point();
            } else if (kind < 8) {
                fault();
            } else if (kind < 10) {
                product();
            } else if (kind < 12) {
                tellOfProduct();
            } else if (kind == 12) {
                tellOfAll();
            } else if (kind == 13 && random.nextInt(3) == 0) {
                same("stems()", naive::stems, x::stems);
                furthest = naive.length(naive.stems.get(naive.stems.size() - 1));
            } else if (kind < 16) {
                cut();
            } else if (kind < 18) {
                make();
                lookAtAll();
            } else {
                look();
            }
        }
        same("run()", naive::run, x::run);
        lookAtAll();
        same("priced(10)", () -> naive.priced(10), () -> x.priced(10));
        lookAtAll();
    }

    /** All ways to cut one stem, without any thought of which is best. */
    private static void allWays(Naive n, int number, int first, Naive.Way sofar, List<Naive.Way> ways) {
        Naive.Stem s = n.stems.get(number);
        if (first == n.steps(s)) {
            ways.add(sofar);
            return;
        }
        allWays(n, number, first + 1, longer(sofar, new Naive.Piece(first, first + 1, -1), 0), ways);
        for (int p = 0; p < n.products.size(); p++) {
            for (int end = first + 1; end <= n.steps(s); end++) {
                if (n.mayBe(s, first, end, n.products.get(p))) {
                    long worth = Naive.worthOf(n.products.get(p), end - first, number);
                    Naive.Way way = longer(sofar, new Naive.Piece(first, end, p), worth);
                    allWays(n, number, n.behind(s, end), way, ways);
                }
            }
        }
    }

    private static Naive.Way longer(Naive.Way sofar, Naive.Piece piece, long worth) {
        Naive.Way way = new Naive.Way();
        way.worth = sofar.worth + worth;
        way.logs = sofar.logs + (piece.product() < 0 ? 0 : 1);
        way.pieces.addAll(sofar.pieces);
        way.pieces.add(piece);
        return way;
    }

    /** Over two stems a plan is compared as a whole: the ways of both, one behind the other. */
    private static Naive.Way bestOfAll(Naive n) {
        List<Naive.Way> first = new ArrayList<>();
        List<Naive.Way> second = new ArrayList<>();
        allWays(n, 0, 0, new Naive.Way(), first);
        allWays(n, 1, 0, new Naive.Way(), second);
        Naive.Way best = null;
        for (Naive.Way a : first) {
            for (Naive.Way b : second) {
                Naive.Way both = new Naive.Way();
                both.worth = a.worth + b.worth;
                both.logs = a.logs + b.logs;
                both.pieces.addAll(a.pieces);
                both.pieces.addAll(b.pieces);
                if (best == null || Naive.order(both, best) < 0) {
                    best = both;
                }
            }
        }
        return best;
    }

    private void tellSmallStems() {
        for (int s = 0; s < 2; s++) {
            if (s > 0) {
                naive.stems();
                x.stems();
            }
            int length = (1 + upTo(4)) * step;
            int[][] points = {{0, 900, upTo(3)}, {length / 2, 800, upTo(3)}, {length, 700, upTo(3)}};
            for (int[] p : points) {
                same("stem", () -> bit(naive.stem(p[0], p[1], p[2])), () -> bit(x.stem(p[0], p[1], p[2])));
            }
            furthest = length;
            cut();
        }
        int scale = new int[] {1, 1, 100, 700}[random.nextInt(4)];
        for (int p = 0; p < 3; p++) {
            int low = (1 + upTo(1)) * step;
            int high = low + upTo(2) * step;
            int sweep = 1 + upTo(2);
            int worth = upTo(4) * scale;
            same("product", () -> naive.product(low, high, 750 - sweep * 50, sweep, worth),
                    () -> x.product(low, high, 750 - sweep * 50, sweep, worth));
            tellOfProduct();
            if (random.nextInt(3) > 0) {
                limitOf(p, upTo(3));
            }
        }
        tellOfAll();
    }

    private void limitOf(int product, int most) {
        same("limit(" + product + ", " + most + ")", () -> bit(naive.limit(product, most)),
                () -> bit(x.limit(product, most)));
    }

    private void smallStems() {
        tellSmallStems();
        Naive.Way best = bestOfAll(naive);
        same("run() of small stems", () -> best.logs, x::run);
        same("worth() of small stems", () -> best.worth, x::worth);
        int k = 0;
        int stem = 0;
        int before = -1;
        for (Naive.Piece piece : best.pieces) {
            stem = piece.first() <= before ? 1 : stem;
            before = piece.first();
            if (piece.product() >= 0) {
                int[] want = {stem, piece.first(), piece.end() - piece.first(), piece.product()};
                for (int what = 0; what < 4; what++) {
                    int row = k;
                    int part = what;
                    same("log of small stems", () -> want[part], () -> x.log(row, part));
                }
                k++;
            }
        }
    }

    /** For each number of logs of each product: what the ways of a stem with so many are worth at most. */
    private static Map<List<Integer>, Long> mostByLogs(Naive n, int number) {
        List<Naive.Way> ways = new ArrayList<>();
        allWays(n, number, 0, new Naive.Way(), ways);
        Map<List<Integer>, Long> most = new HashMap<>();
        for (Naive.Way way : ways) {
            int[] logs = new int[n.products.size()];
            for (Naive.Piece piece : way.pieces) {
                if (piece.product() >= 0) {
                    logs[piece.product()]++;
                }
            }
            most.merge(Arrays.stream(logs).boxed().toList(), way.worth, Math::max);
        }
        return most;
    }

    private static boolean limitsHold(Naive n, List<Integer> logs, List<Integer> more) {
        for (int p = 0; p < n.products.size(); p++) {
            long limit = n.products.get(p).limit;
            if (limit >= 0 && logs.get(p) + more.get(p) > limit) {
                return false;
            }
        }
        return true;
    }

    /** What the plan that is worth most of all in which the limits hold is worth. */
    private static long mostWithinLimits(Naive n) {
        Map<List<Integer>, Long> second = mostByLogs(n, 1);
        long most = 0;
        for (Map.Entry<List<Integer>, Long> a : mostByLogs(n, 0).entrySet()) {
            for (Map.Entry<List<Integer>, Long> b : second.entrySet()) {
                if (limitsHold(n, a.getKey(), b.getKey())) {
                    most = Math.max(most, a.getValue() + b.getValue());
                }
            }
        }
        return most;
    }

    /** What BOUND and greatest() are for: no plan in which the limits hold is worth more than they tell. */
    private void boundOfSmallStems() {
        tellSmallStems();
        long most = mostWithinLimits(naive);
        for (int rounds = 1; rounds <= 10; rounds++) {
            String call = name + ": priced(" + rounds + ") of small stems, ";
            x.priced(rounds);
            checks.due(call + "bound " + x.bound() + " is not below " + most, true, x.bound() >= most);
            checks.due(call + "worth " + x.worth() + " is not above " + most, true, x.worth() <= most);
            if (x.greatest()) {
                checks.due(call + "greatest", most, x.worth());
            }
            for (int p = 0; p < 3; p++) {
                long limit = x.price(p, 2);
                checks.due(call + "limit of " + p, true, limit == BuckTables.NONE || x.price(p, 1) <= limit);
            }
        }
    }

    private void fullStem() {
        int length = longest * step + upTo(step - 1);
        TreeSet<Integer> places = new TreeSet<>(List.of(0, length));
        for (int i = 2; i < 60; i++) {
            places.add(random.nextInt(3) == 0 ? upTo(longest) * step : upTo(length));
        }
        int thin = 900;
        for (int at : places) {
            thin = Math.max(0, thin - upTo(1 + 1000 / places.size()));
            int t = thin;
            int sweep = random.nextInt(8) == 0 ? upTo(20) : upTo(4);
            same("stem(" + at + ", " + t + ", " + sweep + ")", () -> bit(naive.stem(at, t, sweep)),
                    () -> bit(x.stem(at, t, sweep)));
        }
        furthest = length;
        for (int i = upTo(20); i > 0; i--) {
            fault();
        }
        for (int i = upTo(4); i > 0; i--) {
            int at = upTo(longest) * step;
            same("force(" + at + ")", () -> bit(naive.force(at)), () -> bit(x.force(at)));
        }
    }

    /** Six stems and eight products, with points, faults, cuts, bars, limits and wishes. */
    private void fullObject() {
        for (int s = 0; s < 6; s++) {
            if (s > 0) {
                same("stems()", naive::stems, x::stems);
            }
            fullStem();
        }
        for (int p = 0; p < 8; p++) {
            product();
            limitOf(p, upTo(random.nextInt(3) == 0 ? 30 : 6));
        }
        for (int i = 0; i < 12; i++) {
            tellOfProduct();
        }
        tellOfAll();
        same("run()", naive::run, x::run);
        lookAtAll();
        for (int rounds : new int[] {1, 2 + upTo(7), 10}) {
            same("priced(" + rounds + ")", () -> naive.priced(rounds), () -> x.priced(rounds));
            lookAtAll();
        }
        int at = (1 + upTo(longest - 1)) * step;
        same("override(" + at + ")", () -> naive.override(at), () -> x.override(at));
        lookAtAll();
    }

    public static void main(String[] args) {
        int runs = args.length > 0 ? Integer.parseInt(args[0]) : 400;
        for (int seed = 1; seed <= runs; seed++) {
            new OracleTest(seed).mixedCalls(30 + seed % 120);
            new OracleTest(seed + 1000000).smallStems();
            new OracleTest(seed + 2000000).boundOfSmallStems();
        }
        for (int seed = 1; seed <= runs / 10; seed++) {
            new OracleTest(seed + 3000000).fullObject();
        }
        checks.end();
    }
}
