/** Objects for the tests. */
final class Samples {
    static final int FAR = 10000000;
    static final int SIZE = 100000;
    static final int LOW = Integer.MIN_VALUE;
    static final int HIGH = Integer.MAX_VALUE;

    private Samples() {}

    /** A stem of so many steps of ten parts that is nowhere too thin or bent. */
    static BuckTables stem(int steps) {
        return length(10, steps * 10);
    }

    static BuckTables length(int step, int length) {
        BuckTables x = new BuckTables(step);
        addStem(x, length);
        return x;
    }

    static void addStem(BuckTables x, int length) {
        x.stem(0, 500, 0);
        if (length > 0) {
            x.stem(length, 500, 0);
        }
    }

    /** Something of all that can be told, so that a change of any of it can be seen. */
    static BuckTables rich() {
        BuckTables x = new BuckTables(10);
        x.stem(0, 20, 3);
        x.stem(45, 18, 5);
        x.stem(90, 15, 2);
        x.stem(125, 15, 4);
        x.fault(31, 38, 2);
        x.fault(60, 61, 0);
        x.force(50);
        x.stems();
        x.stem(0, 13, 1);
        x.stem(77, 11, 6);
        x.fault(12, 25, 2);
        x.force(70);
        x.product(20, 50, 10, 8, 3);
        x.product(10, 40, 10, 12, 5);
        x.product(30, 30, 0, 12, 4);
        x.bars(0, 2);
        x.bars(2, 0);
        x.limit(0, 2);
        x.limit(1, 3);
        x.wish(0, 1, 7);
        x.wish(2, 0, 3);
        x.margin(1);
        x.saw(1);
        return x;
    }

    /** The rich one, with 60 points in its latest stem. */
    static BuckTables fullOfPoints() {
        BuckTables x = rich();
        x.stems();
        for (int i = 0; i < 60; i++) {
            x.stem(i == 59 ? 120 : 2 * i, 20 - i / 6, i % 5);
        }
        return x;
    }

    /** The rich one, with 20 faults in its latest stem. */
    static BuckTables fullOfFaults() {
        BuckTables x = rich();
        for (int i = 1; i < 20; i++) {
            x.fault(3 * i, 3 * i + 2, i % 8);
        }
        return x;
    }

    /** The rich one, with six stems. */
    static BuckTables fullOfStems() {
        BuckTables x = rich();
        for (int i = 2; i < 6; i++) {
            x.stems();
            x.stem(0, 15, 0);
            x.stem(10 * i + 5, 15, i);
        }
        return x;
    }

    /** The rich one, with eight products. */
    static BuckTables fullOfProducts() {
        BuckTables x = rich();
        for (int i = 3; i < 8; i++) {
            x.product(10, 10 * i, i, i, i);
        }
        return x;
    }
}
