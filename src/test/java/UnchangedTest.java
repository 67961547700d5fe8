/** A call that throws changes nothing, and questions change nothing. */
final class UnchangedTest {
    private static final int NONE = CountSheets.NONE;

    public static void main(String[] args) {
        Checks c = new Checks("UnchangedTest");
        String due = Stock.answers(busy());
        CountSheets asked = busy();
        Stock.answers(asked);
        c.equal("answers after questions", Stock.answers(asked), due);
        Runnable[] calls = throwing(busy());
        for (int i = 0; i < calls.length; i++) {
            CountSheets x = busy();
            Runnable call = throwing(x)[i];
            c.equal("call " + i + " throws", doesThrow(call), true);
            c.equal("answers after call " + i, Stock.answers(x), due);
            c.equal("first price after call " + i, x.setPrice(0, 1), 1);
            c.equal("first bound after call " + i, x.setBound(0, 1), 100);
            c.equal("next move after call " + i, x.move(0, 1, 0, 1, 0), 2);
            c.equal("next sheet after call " + i, x.open(9), 4);
            c.equal("next count after call " + i, x.count(3, 2, 1, 6), false);
            c.equal("agreement after call " + i, x.count(3, 1, 1, 7), true);
            c.equal("agreed after call " + i, x.agreed(3, 1), 6);
        }
        c.end();
    }

    /** A stock with a signed, two CLOSED and an OPEN sheet. */
    private static CountSheets busy() {
        CountSheets x = new CountSheets();
        x.pass(10);
        x.move(NONE, 0, 0, 30, 4);
        x.move(0, 1, 0, 10, 10);
        Stock.closed(x, 2, 0, 7);
        x.sign(0, 0, 0);
        Stock.closed(x, 0, 0, 15);
        Stock.closed(x, 1, 0, 15);
        x.open(3);
        Stock.agree(x, 3, 0, 200);
        x.count(3, 0, 1, 5);
        x.pass(10);
        return x;
    }

    private static Runnable[] throwing(CountSheets x) {
        return new Runnable[] {
            () -> x.setPrice(5, 7), () -> x.setPrice(0, 1001), () -> x.setPrice(0, -1),
            () -> x.setBound(6, 7), () -> x.setBound(0, 1000001), () -> x.setBound(0, -1),
            () -> x.move(12, 0, 0, 1, 0), () -> x.move(0, 12, 0, 1, 0), () -> x.move(0, 1, 5, 1, 0),
            () -> x.move(0, 0, 0, 1, 0), () -> x.move(0, 1, 0, 1001, 0), () -> x.move(0, 1, 0, 1, 21),
            () -> x.pass(0), () -> x.pass(1001), () -> x.open(12), () -> x.open(3),
            () -> x.count(4, 0, 0, 1), () -> x.count(3, 6, 0, 1), () -> x.count(3, 2, 5, 1),
            () -> x.count(3, 2, 2, 100001), () -> x.count(3, 2, 2, -1), () -> x.count(3, 0, 1, 6),
            () -> x.count(3, 2, 0, 1), () -> x.count(2, 2, 2, 1),
            () -> x.close(3), () -> x.close(2), () -> x.close(4),
            () -> x.sign(4, 0, 0), () -> x.sign(1, 5, 0), () -> x.sign(1, 0, 6), () -> x.sign(1, 1, 0),
            () -> x.sign(3, 0, 0), () -> x.sign(0, 0, 0),
            () -> x.settle(1, 4, 0), () -> x.settle(1, 2, 5), () -> x.settle(1, 2, 1),
            () -> x.settle(1, 1, 0), () -> x.settle(0, 1, 0), () -> x.settle(1, 3, 0),
            () -> x.gap(3, 1), () -> x.book(12, 0), () -> x.bookAt(0, 0, 21), () -> x.worth(12),
            () -> x.stateOf(4), () -> x.cutOf(4), () -> x.counts(4, 0), () -> x.agreed(4, 0),
            () -> x.isSigned(4, 0), () -> x.likely(4, 0), () -> x.exact(3)};
    }

    private static boolean doesThrow(Runnable call) {
        try {
            call.run();
            return false;
        } catch (RuntimeException e) {
            return true;
        }
    }
}
