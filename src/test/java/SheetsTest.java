/** Promises 6 to 10: sheets are opened, counted on, closed, signed and settled. */
final class SheetsTest {
    private static final int NONE = CountSheets.NONE;

    public static void main(String[] args) {
        Checks c = new Checks("SheetsTest");
        open(c);
        openAtMostForty(c);
        count(c);
        countThrows(c);
        close(c);
        sign(c);
        signByBound(c);
        signThrows(c);
        settle(c);
        settleThrows(c);
        cannotBeSettled(c);
        c.end();
    }

    private static void open(Checks c) {
        c.promise(6);
        CountSheets x = new CountSheets();
        c.equal("open(0)", x.open(0), 0);
        x.pass(7);
        c.equal("open(11)", x.open(11), 1);
        c.equal("cutOf(1)", x.cutOf(1), 7);
        c.equal("stateOf(1)", x.stateOf(1), CountSheets.OPEN);
        c.throwing("open(0) again", Checks.STATE, () -> x.open(0));
        c.throwing("open(-1)", Checks.INDEX, () -> x.open(-1));
        c.throwing("open(12)", Checks.INDEX, () -> x.open(12));
        c.equal("sheets() after what threw", x.sheets(), 2);
        x.close(0);
        c.equal("open(0) after its sheet was closed", x.open(0), 2);
        c.throwing("open(0) again", Checks.STATE, () -> x.open(0));
    }

    private static void openAtMostForty(Checks c) {
        c.promise(6);
        CountSheets x = new CountSheets();
        for (int i = 0; i < 40; i++) {
            c.equal("open", x.open(i % 12), i);
            x.close(i);
        }
        c.throwing("the 41st sheet", Checks.STATE, () -> x.open(0));
        c.throwing("the 41st sheet, for no place", Checks.INDEX, () -> x.open(12));
        c.equal("sheets()", x.sheets(), 40);
        c.equal("stateOf(39)", x.stateOf(39), CountSheets.CLOSED);
        c.equal("likely(39, 4)", x.likely(39, 4), NONE);
        c.equal("book(11, 4)", x.book(11, 4), 0);
        c.equal("exact(2)", x.exact(2), NONE);
        c.equal("suggested()", x.suggested(), 0);
        c.throwing("stateOf(40)", Checks.INDEX, () -> x.stateOf(40));
        c.throwing("count(40, ..)", Checks.INDEX, () -> x.count(40, 0, 0, 0));
    }

    private static void count(Checks c) {
        c.promise(7);
        CountSheets x = new CountSheets();
        x.open(3);
        c.equal("first of two the same", x.count(0, 0, 0, 0), false);
        c.equal("second of two the same", x.count(0, 5, 0, 0), true);
        c.equal("agreed", x.agreed(0, 0), 0);
        int[][] threes = {{1, 2, 3}, {1, 3, 2}, {2, 1, 3}, {2, 3, 1}, {3, 1, 2}, {3, 2, 1}};
        for (int[] three : threes) {
            CountSheets y = new CountSheets();
            y.open(3);
            c.equal("first of three", y.count(0, 0, 4, three[0]), false);
            c.equal("second of three", y.count(0, 1, 4, three[1]), false);
            c.equal("third of three", y.count(0, 2, 4, three[2]), true);
            c.equal("the middle one", y.agreed(0, 4), 2);
        }
        int[][] pairs = {{9, 4, 9}, {4, 9, 9}, {9, 10, 9}, {10, 9, 9}};
        for (int[] pair : pairs) {
            CountSheets y = new CountSheets();
            y.open(3);
            y.count(0, 0, 4, pair[0]);
            c.equal("second, unlike", y.count(0, 1, 4, pair[1]), false);
            c.equal("third, like one of them", y.count(0, 2, 4, pair[2]), true);
            c.equal("the one of which there are two", y.agreed(0, 4), 9);
        }
        c.equal("the most", x.count(0, 0, 2, 100000), false);
        c.equal("other article, same person", x.count(0, 0, 3, 5), false);
        x.open(4);
        c.equal("other sheet, same person", x.count(1, 0, 3, 6), false);
        c.equal("the articles are kept apart", x.count(0, 1, 3, 6), false);
    }

    private static void countThrows(Checks c) {
        c.promise(7);
        CountSheets x = new CountSheets();
        c.throwing("no sheet", Checks.INDEX, () -> x.count(0, 0, 0, 0));
        x.open(3);
        c.throwing("sheet -1", Checks.INDEX, () -> x.count(-1, 0, 0, 0));
        c.throwing("sheet 1", Checks.INDEX, () -> x.count(1, 0, 0, 0));
        c.throwing("person -1", Checks.INDEX, () -> x.count(0, -1, 0, 0));
        c.throwing("person 6", Checks.INDEX, () -> x.count(0, 6, 0, 0));
        c.throwing("article -1", Checks.INDEX, () -> x.count(0, 0, -1, 0));
        c.throwing("article 5", Checks.INDEX, () -> x.count(0, 0, 5, 0));
        c.throwing("quantity -1", Checks.ARGUMENT, () -> x.count(0, 0, 0, -1));
        c.throwing("quantity 100001", Checks.ARGUMENT, () -> x.count(0, 0, 0, 100001));
        c.throwing("article 5, quantity -1", Checks.INDEX, () -> x.count(0, 0, 5, -1));
        c.throwing("person 6, quantity -1", Checks.INDEX, () -> x.count(0, 6, 0, -1));
        c.equal("counts after what threw", x.counts(0, 0), 0);
        x.count(0, 2, 0, 8);
        c.throwing("the same person again", Checks.STATE, () -> x.count(0, 2, 0, 8));
        c.throwing("the same person again, another quantity", Checks.STATE, () -> x.count(0, 2, 0, 9));
        c.throwing("the same person again, quantity -1", Checks.ARGUMENT, () -> x.count(0, 2, 0, -1));
        c.equal("counts after what threw", x.counts(0, 0), 1);
        x.count(0, 3, 0, 8);
        c.throwing("after agreement", Checks.STATE, () -> x.count(0, 4, 0, 8));
        c.throwing("after agreement, quantity 100001", Checks.ARGUMENT, () -> x.count(0, 4, 0, 100001));
        x.close(0);
        c.throwing("on a CLOSED sheet", Checks.STATE, () -> x.count(0, 0, 1, 8));
        c.throwing("on a CLOSED sheet, quantity -1", Checks.ARGUMENT, () -> x.count(0, 0, 1, -1));
        c.equal("counts after what threw", x.counts(0, 1), 0);
    }

    private static void close(Checks c) {
        c.promise(8);
        CountSheets x = new CountSheets();
        c.throwing("no sheet", Checks.INDEX, () -> x.close(0));
        x.open(0);
        x.open(1);
        c.throwing("sheet -1", Checks.INDEX, () -> x.close(-1));
        c.throwing("sheet 2", Checks.INDEX, () -> x.close(2));
        c.equal("nothing counted", x.close(0), 0);
        c.equal("stateOf(0)", x.stateOf(0), CountSheets.CLOSED);
        c.equal("stateOf(1)", x.stateOf(1), CountSheets.OPEN);
        c.throwing("closed again", Checks.STATE, () -> x.close(0));
        Stock.agree(x, 1, 0, 3);
        x.count(1, 0, 4, 1);
        c.throwing("one count of the article 4", Checks.STATE, () -> x.close(1));
        x.count(1, 1, 4, 2);
        c.throwing("two counts that do not agree", Checks.STATE, () -> x.close(1));
        c.equal("stateOf(1) after what threw", x.stateOf(1), CountSheets.OPEN);
        x.count(1, 2, 4, 3);
        c.equal("two articles", x.close(1), 2);
        x.open(2);
        for (int article = 0; article < 5; article++) {
            Stock.agree(x, 2, article, 0);
        }
        c.equal("all articles", x.close(2), 5);
    }

    private static void sign(Checks c) {
        c.promise(9);
        CountSheets x = new CountSheets();
        x.pass(10);
        x.move(NONE, 6, 1, 20, 10);
        Stock.closed(x, 6, 1, 25);
        c.equal("book before", x.book(6, 1), 20);
        c.equal("a gap above 0", x.sign(0, 1, 5), 5);
        c.equal("book at the cut", x.book(6, 1), 25);
        c.equal("book before the cut", x.bookAt(6, 1, 9), 0);
        c.equal("isSigned", x.isSigned(0, 1), true);
        Stock.closed(x, 6, 1, 22);
        c.equal("a gap below 0", x.sign(1, 1, 0), -3);
        Stock.closed(x, 6, 1, 22);
        c.equal("no gap", x.sign(2, 1, 0), 0);
        c.equal("the book", x.book(6, 1), 22);
        Stock.closed(x, 7, 1, 30);
        x.move(NONE, 7, 1, 10, 2);
        c.equal("a move booked late before the cut", x.sign(3, 1, 0), 20);
        x.move(NONE, 7, 1, 10, 10);
        c.equal("a move booked late at the cut", x.book(7, 1), 30);
    }

    private static void signByBound(Checks c) {
        c.promise(9);
        CountSheets x = new CountSheets();
        x.setPrice(0, 50);
        x.setBound(2, 149);
        x.move(NONE, 0, 0, 3, 0);
        Stock.closed(x, 0, 0, 0);
        c.throwing("150 over a bound of 149, gap below 0", Checks.STATE, () -> x.sign(0, 0, 2));
        c.throwing("150 over a bound of 100", Checks.STATE, () -> x.sign(0, 0, 1));
        c.equal("isSigned after what threw", x.isSigned(0, 0), false);
        x.setBound(2, 150);
        c.equal("150 at a bound of 150", x.sign(0, 0, 2), -3);
        Stock.closed(x, 1, 1, 101);
        c.throwing("101 over the first bound", Checks.STATE, () -> x.sign(1, 1, 0));
        x.setPrice(1, 0);
        x.setBound(0, 0);
        c.equal("without a price, without a bound", x.sign(1, 1, 0), 101);
        x.setPrice(2, 1000);
        Stock.closed(x, 2, 2, 1000);
        x.setBound(3, 999999);
        c.throwing("a million over 999999", Checks.STATE, () -> x.sign(2, 2, 3));
        x.setBound(3, 1000000);
        c.equal("a million", x.sign(2, 2, 3), 1000);
        x.setPrice(3, 1000);
        Stock.closed(x, 3, 3, 100000);
        c.throwing("100 million", Checks.STATE, () -> x.sign(3, 3, 3));
    }

    private static void signThrows(Checks c) {
        c.promise(9);
        CountSheets x = new CountSheets();
        c.throwing("no sheet", Checks.INDEX, () -> x.sign(0, 0, 0));
        Stock.counted(x, 0, 0, 5);
        x.count(0, 0, 1, 5);
        c.throwing("sheet -1", Checks.INDEX, () -> x.sign(-1, 0, 0));
        c.throwing("sheet 1", Checks.INDEX, () -> x.sign(1, 0, 0));
        c.throwing("article -1", Checks.INDEX, () -> x.sign(0, -1, 0));
        c.throwing("article 5", Checks.INDEX, () -> x.sign(0, 5, 0));
        c.throwing("person -1", Checks.INDEX, () -> x.sign(0, 0, -1));
        c.throwing("person 6", Checks.INDEX, () -> x.sign(0, 0, 6));
        c.throwing("person 6, not counted", Checks.INDEX, () -> x.sign(0, 2, 6));
        c.throwing("one count, OPEN", Checks.ELEMENT, () -> x.sign(0, 1, 0));
        c.throwing("not counted, OPEN", Checks.ELEMENT, () -> x.sign(0, 2, 0));
        c.throwing("OPEN", Checks.STATE, () -> x.sign(0, 0, 0));
        x.count(0, 1, 1, 5);
        x.close(0);
        c.throwing("not counted, CLOSED", Checks.ELEMENT, () -> x.sign(0, 2, 0));
        c.equal("sign(0, 0, 0)", x.sign(0, 0, 0), 5);
        c.throwing("signed again", Checks.STATE, () -> x.sign(0, 0, 0));
        c.throwing("signed again by another", Checks.STATE, () -> x.sign(0, 0, 1));
        c.equal("the other article", x.sign(0, 1, 0), 5);
    }

    private static CountSheets withGaps() {
        CountSheets x = new CountSheets();
        x.setPrice(2, 1000);
        x.move(NONE, 1, 2, 50, 0);
        x.move(NONE, 5, 2, 50, 0);
        Stock.closed(x, 1, 2, 45);
        Stock.closed(x, 5, 2, 55);
        return x;
    }

    private static void settle(Checks c) {
        c.promise(10);
        CountSheets x = withGaps();
        for (int person = 0; person < 6; person++) {
            x.setBound(person, 0);
        }
        c.equal("by nobody's bound", x.settle(0, 1, 2), 5);
        c.equal("both are signed", x.isSigned(0, 2) && x.isSigned(1, 2), true);
        c.equal("gap(0, 2)", x.gap(0, 2), -5);
        c.equal("gap(1, 2)", x.gap(1, 2), 5);
        c.equal("book(1, 2)", x.book(1, 2), 45);
        c.equal("book(5, 2)", x.book(5, 2), 55);
        c.throwing("settled again", Checks.STATE, () -> x.settle(0, 1, 2));
        CountSheets y = withGaps();
        c.equal("the other way round", y.settle(1, 0, 2), 5);
        c.equal("gap(0, 2)", y.gap(0, 2), -5);
        c.equal("gap(1, 2)", y.gap(1, 2), 5);
        c.equal("exact(0)", y.exact(0), 0);
        c.equal("exact(1)", y.exact(1), 0);
        CountSheets z = new CountSheets();
        z.move(NONE, 2, 0, 8, 0);
        Stock.closed(z, 2, 0, 0);
        z.pass(4);
        Stock.closed(z, 3, 0, 8);
        c.equal("in one zone, with other cuts", z.settle(1, 0, 0), 8);
        c.equal("exact(0)", z.exact(0), 0);
    }

    private static void settleThrows(Checks c) {
        c.promise(10);
        CountSheets x = withGaps();
        c.throwing("sheet -1", Checks.INDEX, () -> x.settle(-1, 1, 2));
        c.throwing("sheet 2", Checks.INDEX, () -> x.settle(2, 1, 2));
        c.throwing("other -1", Checks.INDEX, () -> x.settle(0, -1, 2));
        c.throwing("other 2", Checks.INDEX, () -> x.settle(0, 2, 2));
        c.throwing("article -1", Checks.INDEX, () -> x.settle(0, 1, -1));
        c.throwing("article 5", Checks.INDEX, () -> x.settle(0, 1, 5));
        c.throwing("neither counted", Checks.ELEMENT, () -> x.settle(0, 1, 3));
        c.throwing("not counted on the same sheet", Checks.ELEMENT, () -> x.settle(0, 0, 3));
        int open = x.open(6);
        c.throwing("other not counted", Checks.ELEMENT, () -> x.settle(0, open, 2));
        c.throwing("first not counted", Checks.ELEMENT, () -> x.settle(open, 0, 2));
        x.count(open, 0, 2, 5);
        c.throwing("other with one count", Checks.ELEMENT, () -> x.settle(0, open, 2));
        c.throwing("first with one count", Checks.ELEMENT, () -> x.settle(open, 0, 2));
        x.count(open, 1, 2, 5);
        c.throwing("other OPEN", Checks.STATE, () -> x.settle(0, open, 2));
        c.throwing("first OPEN", Checks.STATE, () -> x.settle(open, 0, 2));
        x.close(open);
        c.equal("all CLOSED", x.settle(open, 0, 2), 5);
    }

    private static void cannotBeSettled(Checks c) {
        c.promise(10);
        CountSheets x = withGaps();
        c.throwing("with itself", Checks.STATE, () -> x.settle(0, 0, 2));
        int same = Stock.closed(x, 1, 2, 55);
        c.throwing("for the same place", Checks.STATE, () -> x.settle(0, same, 2));
        int more = Stock.closed(x, 6, 2, 6);
        c.throwing("together 1", Checks.STATE, () -> x.settle(0, more, 2));
        c.throwing("both above 0", Checks.STATE, () -> x.settle(1, more, 2));
        int none = Stock.closed(x, 7, 2, 0);
        int zero = Stock.closed(x, 8, 2, 0);
        c.throwing("0 each", Checks.STATE, () -> x.settle(none, zero, 2));
        c.equal("nothing is signed", x.isSigned(none, 2) || x.isSigned(zero, 2) || x.isSigned(0, 2), false);
        x.move(NONE, 5, 2, 1, 0);
        c.throwing("gap changed by a move booked late", Checks.STATE, () -> x.settle(0, 1, 2));
        x.move(5, NONE, 2, 1, 0);
        x.setBound(4, 1000000);
        x.sign(1, 2, 4);
        c.throwing("other signed", Checks.STATE, () -> x.settle(0, 1, 2));
        c.throwing("first signed", Checks.STATE, () -> x.settle(1, 0, 2));
        c.equal("isSigned(0, 2)", x.isSigned(0, 2), false);
    }
}
