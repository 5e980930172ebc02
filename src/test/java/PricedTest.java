/** PRICED of the section 'Terms': a test for each of its sentences, on rounds worked out by hand. */
public final class PricedTest {
    private static final int SIZE = Samples.SIZE;
    private static final Edges edges = new Edges();
    private static final Checks checks = edges.checks;

    /** Stems of one step, with one product that is wished so much on each one's day. */
    private static BuckTables wished(int... wishes) {
        BuckTables x = new BuckTables(10);
        x.product(10, 10, 0, 0, 0);
        for (int s = 0; s < wishes.length; s++) {
            if (s > 0) {
                x.stems();
            }
            Samples.addStem(x, 10);
            x.wish(0, s, wishes[s]);
        }
        return x;
    }

    /**
     * Three steps, logs of one step worth 1100, two of them at most, and of two steps worth 200. Its rounds: three
     * logs of 0; price 1024: one of 1 and one of 0, VALUE 276 + 2048; price 512: three; price 853: three; price 1109:
     * one of 1, VALUE 200 + 2218.
     */
    private static BuckTables upAndDown() {
        BuckTables x = Samples.stem(3);
        x.product(10, 10, 0, 0, 1100);
        x.product(20, 20, 0, 0, 100);
        x.limit(0, 2);
        return x;
    }

    /** "prices of products with a limit are 0 at first" */
    private static void pricesAtFirst() {
        BuckTables x = upAndDown();
        checks.due("one round", 1, x.priced(1));
        checks.due("its price", 0, x.price(0, 0));
        checks.due("five rounds", 5, x.priced(5));
        checks.due("their last price", 1109, x.price(0, 0));
        checks.due("one round again", 1, x.priced(1));
        checks.due("prices begin anew", 0, x.price(0, 0));
        checks.due("two rounds", 2, x.priced(2));
        checks.due("the second one's price", 1024, x.price(0, 0));
    }

    /** Products without a limit have no price, however many logs of them there are. */
    private static void noPriceWithoutLimit() {
        BuckTables x = upAndDown();
        for (int rounds = 1; rounds <= 10; rounds++) {
            x.priced(rounds);
            checks.due("no price of product 1 in round " + rounds, 0, x.price(1, 0));
        }
    }

    /** "a log being worth its product's price less (also below 0)": at 0 it is one log too many. */
    private static void priceJustBelowWorth() {
        BuckTables kept = wished(1025, 1024);
        kept.limit(0, 1);
        checks.due("1025 is above the price, 1024 is not", 2, kept.priced(10));
        edges.plan("1025 is kept", kept, "0:0+1=0(1025)", "1:0+1", 1025);
        checks.due("price 1024", 1024, kept.price(0, 0));
        checks.due("bound 1 + 1024", 1025, kept.bound());
        checks.due("greatest", true, kept.greatest());
        BuckTables both = wished(1024, 1024);
        both.limit(0, 1);
        checks.due("neither is above the price", 2, both.priced(2));
        edges.plan("all is FUEL", both, "", "0:0+1 1:0+1", 0);
        checks.due("bound 0 + 1024", 1024, both.bound());
        BuckTables below = wished(1, 2, 3);
        below.limit(0, 2);
        checks.due("far below the price", 2, below.priced(2));
        edges.plan("far below the price", below, "", "0:0+1 1:0+1 2:0+1", 0);
        checks.due("the least VALUE is the first one", 6, below.bound());
    }

    /** "price + (logs of it in that plan - limit) * max(1, 1024 / r)" */
    private static void paceOfRounds() {
        long[] prices = {0, 1024, 1536, 1877, 2133, 2337, 2507, 2653, 2781, 2894};
        BuckTables one = wished(SIZE, SIZE);
        one.limit(0, 1);
        BuckTables four = wished(SIZE, SIZE, SIZE, SIZE);
        four.limit(0, 0);
        for (int rounds = 1; rounds <= 10; rounds++) {
            checks.due("one too many, rounds", rounds, one.priced(rounds));
            checks.due("one too many, price of round " + rounds, prices[rounds - 1], one.price(0, 0));
            checks.due("four too many, rounds", rounds, four.priced(rounds));
            checks.due("four too many, price of round " + rounds, 4 * prices[rounds - 1], four.price(0, 0));
            checks.due("what is left of round " + rounds, SIZE, one.worth());
            checks.due("bound of round " + rounds, 2L * SIZE - prices[rounds - 1], one.bound());
        }
    }

    /** "but not less than 0" */
    private static void priceNotBelowNothing() {
        BuckTables x = wished(1, 1, 1);
        x.limit(0, 2);
        long[] prices = {0, 1024, 0, 341, 0};
        for (int rounds = 1; rounds <= 5; rounds++) {
            checks.due("rounds", rounds, x.priced(rounds));
            checks.due("price of round " + rounds, prices[rounds - 1], x.price(0, 0));
        }
        BuckTables few = wished(1);
        few.limit(0, 1000);
        few.product(10, 10, 0, 0, 5);
        few.limit(1, 0);
        checks.due("far fewer logs than the limit", 2, few.priced(10));
        checks.due("a price of 0 stays", 0, few.price(0, 0));
        checks.due("the other one's price", 1024, few.price(1, 0));
    }

    /** "It ends behind a round in whose plan all limits hold" */
    private static void endsWhenAllLimitsHold() {
        BuckTables x = wished(5, 5, 5);
        x.limit(0, 4);
        checks.due("fewer than the limit", 1, x.priced(10));
        x.limit(0, 3);
        checks.due("just the limit", 1, x.priced(10));
        edges.plan("just the limit", x, "0:0+1=0(5) 1:0+1=0(5) 2:0+1=0(5)", "", 15);
        checks.due("just the limit: greatest", true, x.greatest());
        x.limit(0, 2);
        checks.due("one more than the limit", 10, x.priced(10));
        BuckTables two = wished(5, 5);
        two.product(10, 10, 0, 0, 4);
        two.limit(0, 2);
        two.limit(1, 0);
        checks.due("both hold at once", 1, two.priced(10));
        two.limit(0, 1);
        checks.due("one holds, the other one does not", 10, two.priced(10));
    }

    /** "and each product that had a price above 0 in it has just its limit of logs" */
    private static void endsWithJustTheLimit() {
        BuckTables x = wished(5000, 2000);
        x.limit(0, 1);
        checks.due("just the limit at the fifth price", 5, x.priced(10));
        checks.due("the fifth price", 1024 + 512 + 341 + 256, x.price(0, 0));
        edges.plan("just the limit", x, "0:0+1=0(5000)", "1:0+1", 5000);
        checks.due("five rounds are enough", 5, x.priced(5));
        BuckTables fewer = wished(2000, 1000, 1000);
        fewer.limit(0, 2);
        checks.due("fewer than the limit at a price above 0", 3, fewer.priced(3));
        checks.due("its price falls", 1024 - 512, fewer.price(0, 0));
        BuckTables none = wished(1000);
        none.limit(0, 0);
        checks.due("none is just a limit of 0", 2, none.priced(10));
        BuckTables again = Samples.length(1, 3);
        again.product(1, 2, 0, 0, 200);
        again.product(1, 2, 0, 0, 50);
        again.product(1, 1, 0, 0, 50);
        again.limit(0, 1);
        again.limit(1, 1);
        checks.due("fewer than the limit at a price that is 0 again", 5, again.priced(10));
        checks.due("the price that is 0 again", 0, again.price(1, 0));
        checks.due("its logs", 0, again.price(1, 1));
    }

    /**
     * "a price above 0": 1 is one. Prices of 0 and 1 by round are 0 0, 1024 0, 512 1024, 171 1, 171 0; rounds 4 and 5
     * have the same plan, with VALUES 39 + 18 + 171 + 3 and 39 + 20 + 171.
     */
    private static void priceOfOne() {
        BuckTables x = Samples.length(1, 3);
        x.stems();
        Samples.addStem(x, 2);
        x.product(2, 3, 0, 0, 70);
        x.product(1, 1, 0, 0, 10);
        x.limit(0, 1);
        x.limit(1, 3);
        checks.due("four rounds", 4, x.priced(4));
        checks.due("the price of 1", 1, x.price(1, 0));
        checks.due("bound of four rounds", 231, x.bound());
        checks.due("greatest of four rounds", false, x.greatest());
        checks.due("a price of 1 goes on", 5, x.priced(10));
        checks.due("the price of 0", 0, x.price(1, 0));
        edges.plan("settled", x, "0:0+3=0(210) 1:0+1=1(10) 1:1+1=1(10)", "", 230);
        checks.due("bound", 230, x.bound());
        checks.due("greatest", true, x.greatest());
    }

    /** Eight products with a limit, each with its own price. */
    private static void pricesOfAllProducts() {
        BuckTables x = Samples.stem(8);
        for (int p = 0; p < 8; p++) {
            x.product(10, 10, 0, 0, 100);
            x.wish(p, 0, p);
            x.limit(p, 0);
        }
        long[] prices = new long[8];
        for (int round = 1; round <= 8; round++) {
            checks.due("rounds", round, x.priced(round));
            for (int p = 0; p < 8; p++) {
                checks.due("price of product " + p + " in round " + round, prices[p], x.price(p, 0));
            }
            prices[8 - round] = 8L * (1024 / round);
        }
        checks.due("all too dear", 9, x.priced(10));
        edges.plan("all too dear", x, "", "0:0+8", 0);
        checks.due("none is just each one's limit", true, x.greatest());
    }

    /** "or behind as many rounds as are told" */
    private static void endsBehindTheRoundsTold() {
        BuckTables x = upAndDown();
        for (int rounds = 1; rounds <= 10; rounds++) {
            checks.due("rounds", rounds, x.priced(rounds));
        }
    }

    /** "BOUND is the least VALUE." */
    private static void leastValue() {
        BuckTables x = upAndDown();
        long[] bounds = {3300, 2324, 2324, 2324, 2324};
        for (int rounds = 1; rounds <= 5; rounds++) {
            x.priced(rounds);
            checks.due("bound of rounds " + rounds, bounds[rounds - 1], x.bound());
            checks.due("greatest of rounds " + rounds, false, x.greatest());
        }
        BuckTables last = wished(5000, 2000);
        last.limit(0, 1);
        last.priced(4);
        checks.due("each VALUE less than the one before", 7000 - 1024 - 512 - 341, last.bound());
    }

    /** "the one of all rounds in which all limits hold that is worth most (by what logs are truly worth)" */
    private static void worthMostOfRounds() {
        BuckTables x = upAndDown();
        for (int rounds = 2; rounds <= 7; rounds++) {
            x.priced(rounds);
            edges.plan("round 2 of " + rounds, x, "0:0+2=1(200) 0:2+1=0(1100)", "", 1300);
            checks.due("logs of the plan, not of the last round", 1, x.price(0, 1));
        }
        BuckTables later = Samples.stem(3);
        later.product(10, 10, 0, 0, 400);
        later.product(20, 20, 0, 0, 100);
        later.limit(0, 2);
        later.priced(3);
        edges.plan("the first that holds", later, "0:0+2=1(200)", "0:2+1", 200);
        checks.due("a later one holds", 4, later.priced(4));
        edges.plan("a later one is worth more", later, "0:0+2=1(200) 0:2+1=0(400)", "", 600);
        checks.due("its price", 341, later.price(0, 0));
    }

    /** "of several the earliest": rounds 4 and 5 are both worth 450, with a log of 1 in round 5. */
    private static void earliestOfSeveral() {
        BuckTables x = Samples.length(1, 3);
        x.product(1, 2, 0, 0, 200);
        x.product(1, 2, 0, 0, 50);
        x.product(1, 1, 0, 0, 50);
        x.limit(0, 1);
        x.limit(1, 1);
        x.priced(4);
        edges.plan("the earlier one", x, "0:0+2=0(400) 0:2+1=2(50)", "", 450);
        checks.due("both rounds", 5, x.priced(5));
        edges.plan("the earlier one of both", x, "0:0+2=0(400) 0:2+1=2(50)", "", 450);
    }

    /** "without one the last round's, in which .. the latest ones (of the greatest stems, nearest their ends) are FUEL" */
    private static void latestLogsAreFuel() {
        BuckTables x = new BuckTables(10);
        x.product(10, 10, 0, 0, 1);
        for (int s = 0; s < 3; s++) {
            if (s > 0) {
                x.stems();
            }
            Samples.addStem(x, 20);
        }
        String[] logs = {"", "0:0+1=0(1)", " 0:1+1=0(1)", " 1:0+1=0(1)", " 1:1+1=0(1)", " 2:0+1=0(1)", " 2:1+1=0(1)"};
        String[] fuel = {"0:0+2 1:0+2 2:0+2", "0:1+1 1:0+2 2:0+2", "1:0+2 2:0+2", "1:1+1 2:0+2", "2:0+2", "2:1+1", ""};
        StringBuilder kept = new StringBuilder();
        for (int limit = 0; limit <= 6; limit++) {
            kept.append(logs[limit]);
            x.limit(0, limit);
            x.priced(1);
            edges.plan("limit " + limit, x, kept.toString(), fuel[limit], limit);
            checks.due("logs, limit " + limit, limit, x.price(0, 1));
            checks.due("bound, limit " + limit, 6, x.bound());
            checks.due("greatest, limit " + limit, limit == 6, x.greatest());
        }
    }

    /** "for each product with too many logs": each by its own limit, others stay. */
    private static void eachProductWithTooMany() {
        BuckTables x = Samples.stem(6);
        x.product(10, 10, 0, 0, 5);
        x.product(10, 10, 0, 5, 1);
        x.product(10, 10, 0, 0, 1);
        x.bars(0, 0);
        x.bars(2, 0);
        x.fault(10, 20, 0);
        x.fault(40, 50, 0);
        edges.planOfRun("before limits", x,
                "0:0+1=0(5) 0:1+1=1(1) 0:2+1=0(5) 0:3+1=0(5) 0:4+1=1(1) 0:5+1=0(5)", "", 22);
        x.limit(0, 2);
        x.priced(1);
        edges.plan("of one product", x, "0:0+1=0(5) 0:1+1=1(1) 0:2+1=0(5) 0:4+1=1(1)", "0:3+1 0:5+1", 12);
        x.limit(1, 1);
        x.priced(1);
        edges.plan("of two products", x, "0:0+1=0(5) 0:1+1=1(1) 0:2+1=0(5)", "0:3+3", 11);
    }

    /** "the last round's": not the first one's. */
    private static void lastRoundIsLeft() {
        BuckTables x = Samples.length(1, 3);
        x.product(1, 2, 0, 0, 200);
        x.product(1, 2, 0, 0, 50);
        x.limit(0, 1);
        x.limit(1, 1);
        x.priced(1);
        edges.plan("of one round", x, "0:0+2=0(400)", "0:2+1", 400);
        x.priced(2);
        edges.plan("of two rounds", x, "0:0+2=1(100)", "0:2+1", 100);
    }

    /** "(and the steps lost behind them stay lost)" */
    private static void lostStepsStayLost() {
        BuckTables x = Samples.stem(7);
        x.product(20, 20, 0, 0, 1);
        x.saw(2);
        x.limit(0, 0);
        edges.planOfRun("before the limit", x, "0:0+2=0(2) 0:4+2=0(2)", "", 4);
        x.priced(1);
        edges.plan("lost in the middle and at the end", x, "", "0:0+2 0:4+2", 0);
        x.saw(0);
        x.priced(1);
        edges.plan("none is lost, one row", x, "", "0:0+7", 0);
    }

    public static void main(String[] args) {
        pricesAtFirst();
        noPriceWithoutLimit();
        priceJustBelowWorth();
        paceOfRounds();
        priceNotBelowNothing();
        endsWhenAllLimitsHold();
        endsWithJustTheLimit();
        priceOfOne();
        pricesOfAllProducts();
        endsBehindTheRoundsTold();
        leastValue();
        worthMostOfRounds();
        earliestOfSeveral();
        latestLogsAreFuel();
        eachProductWithTooMany();
        lastRoundIsLeft();
        lostStepsStayLost();
        checks.end();
    }
}
