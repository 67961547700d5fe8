/** Promises 17 to 25: what sheets tell, and how exact the book was. */
final class SheetsAsTheyAreTest {
    private static final int NONE = CountSheets.NONE;

    public static void main(String[] args) {
        Checks c = new Checks("SheetsAsTheyAreTest");
        sheetsStateAndCut(c);
        countsAndAgreed(c);
        gap(c);
        gapOfSignedCounts(c);
        isSigned(c);
        likely(c);
        likelyLeavesOut(c);
        exact(c);
        noSuchSheetOrArticle(c);
        c.end();
    }

    private static void sheetsStateAndCut(Checks c) {
        CountSheets x = new CountSheets();
        c.promise(17);
        c.equal("sheets()", x.sheets(), 0);
        x.open(3);
        x.pass(12);
        x.open(2);
        c.equal("sheets()", x.sheets(), 2);
        c.promise(18);
        c.equal("stateOf(0)", x.stateOf(0), CountSheets.OPEN);
        x.close(0);
        c.equal("stateOf(0)", x.stateOf(0), CountSheets.CLOSED);
        c.equal("stateOf(1)", x.stateOf(1), CountSheets.OPEN);
        c.promise(17);
        c.equal("sheets() with a CLOSED one", x.sheets(), 2);
        c.promise(19);
        x.pass(1);
        c.equal("cutOf(0)", x.cutOf(0), 0);
        c.equal("cutOf(1)", x.cutOf(1), 12);
    }

    private static void countsAndAgreed(Checks c) {
        CountSheets x = new CountSheets();
        x.open(0);
        x.open(1);
        int[] counts = {7, 3, 5};
        int[] agreed = {NONE, NONE, 5};
        for (int i = 0; i < 3; i++) {
            x.count(1, i, 4, counts[i]);
            c.promise(20);
            c.equal("counts(1, 4)", x.counts(1, 4), i + 1);
            c.promise(21);
            c.equal("agreed(1, 4)", x.agreed(1, 4), agreed[i]);
        }
        Stock.agree(x, 1, 0, 0);
        c.promise(20);
        c.equal("counts(1, 0)", x.counts(1, 0), 2);
        c.equal("counts(1, 3)", x.counts(1, 3), 0);
        c.equal("counts(0, 4)", x.counts(0, 4), 0);
        c.promise(21);
        c.equal("agreed(1, 0)", x.agreed(1, 0), 0);
        c.equal("agreed(1, 3)", x.agreed(1, 3), NONE);
        c.equal("agreed(0, 4)", x.agreed(0, 4), NONE);
        x.close(1);
        x.sign(1, 4, 0);
        c.equal("agreed(1, 4), signed", x.agreed(1, 4), 5);
    }

    private static void gap(Checks c) {
        c.promise(22);
        CountSheets x = new CountSheets();
        x.pass(5);
        x.move(NONE, 3, 2, 10, 5);
        x.open(3);
        x.count(0, 4, 2, 12);
        c.throwing("one count", Checks.ELEMENT, () -> x.gap(0, 2));
        c.throwing("no count", Checks.ELEMENT, () -> x.gap(0, 1));
        x.count(0, 5, 2, 12);
        c.equal("on an OPEN sheet", x.gap(0, 2), 2);
        x.pass(1);
        x.move(NONE, 3, 2, 4, 6);
        c.equal("a move after the cut", x.gap(0, 2), 2);
        x.move(NONE, 3, 2, 4, 5);
        c.equal("a move at the cut", x.gap(0, 2), -2);
        x.move(3, 4, 2, 1, 0);
        c.equal("a move before the cut", x.gap(0, 2), -1);
        x.close(0);
        c.equal("on a CLOSED sheet", x.gap(0, 2), -1);
    }

    private static void gapOfSignedCounts(Checks c) {
        c.promise(22);
        CountSheets x = new CountSheets();
        Stock.closed(x, 3, 2, 8);
        Stock.closed(x, 3, 2, 8);
        x.pass(2);
        Stock.closed(x, 3, 2, 8);
        c.equal("before anything is signed", x.gap(1, 2), 8);
        x.sign(0, 2, 0);
        c.equal("signed", x.gap(0, 2), 8);
        c.equal("after the same cut was signed", x.gap(1, 2), 0);
        c.equal("after an earlier cut was signed", x.gap(2, 2), 0);
        x.move(NONE, 3, 2, 3, 1);
        c.equal("a move after the signed cut", x.gap(2, 2), -3);
        x.sign(2, 2, 0);
        c.equal("a later cut changes nothing", x.gap(1, 2), 0);
        x.move(NONE, 3, 2, 100, 0);
        x.move(NONE, 3, 2, 100, 2);
        c.equal("signed, as it was then", x.gap(0, 2), 8);
        c.equal("signed, as it was then", x.gap(2, 2), -3);
    }

    private static void isSigned(Checks c) {
        c.promise(23);
        CountSheets x = new CountSheets();
        Stock.counted(x, 0, 0, 1);
        Stock.agree(x, 0, 1, 1);
        c.equal("agreed", x.isSigned(0, 0), false);
        x.close(0);
        c.equal("CLOSED", x.isSigned(0, 0), false);
        x.sign(0, 0, 0);
        c.equal("signed", x.isSigned(0, 0), true);
        c.equal("another article", x.isSigned(0, 1), false);
        c.equal("not counted", x.isSigned(0, 4), false);
    }

    private static void likely(Checks c) {
        c.promise(24);
        CountSheets x = new CountSheets();
        x.move(NONE, 0, 0, 10, 0);
        Stock.closed(x, 0, 0, 6);
        c.equal("alone", x.likely(0, 0), NONE);
        Stock.closed(x, 1, 0, 3);
        c.equal("together -1", x.likely(0, 0), NONE);
        Stock.closed(x, 2, 0, 4);
        Stock.closed(x, 3, 0, 4);
        c.equal("the lowest", x.likely(0, 0), 2);
        c.equal("of the lower number", x.likely(3, 0), 0);
        c.equal("of the lower number", x.likely(2, 0), 0);
        c.equal("without a gap to match", x.likely(1, 0), NONE);
        c.equal("another article", x.likely(0, 1), NONE);
        x.settle(0, 3, 0);
        c.equal("signed", x.likely(0, 0), NONE);
        c.equal("its other one is signed", x.likely(2, 0), NONE);
        x.move(NONE, 2, 0, 7, 0);
        c.equal("after a move booked late", x.likely(1, 0), 2);
        c.equal("after a move booked late", x.likely(2, 0), 1);
    }

    private static void likelyLeavesOut(Checks c) {
        c.promise(24);
        CountSheets x = new CountSheets();
        x.move(NONE, 0, 0, 10, 0);
        int below = Stock.closed(x, 0, 0, 6);
        int same = Stock.closed(x, 0, 0, 14);
        c.equal("for the same place", x.likely(below, 0), NONE);
        int open = Stock.counted(x, 1, 0, 4);
        c.equal("the other one OPEN", x.likely(below, 0), NONE);
        c.equal("OPEN itself", x.likely(open, 0), NONE);
        x.close(open);
        c.equal("CLOSED", x.likely(below, 0), open);
        c.equal("CLOSED", x.likely(open, 0), below);
        c.equal("both above 0", x.likely(same, 0), NONE);
        int none = Stock.closed(x, 2, 0, 0);
        Stock.closed(x, 3, 0, 0);
        c.equal("0 each", x.likely(none, 0), NONE);
        int empty = x.open(4);
        c.equal("not counted", x.likely(empty, 0), NONE);
        x.sign(open, 0, 0);
        c.equal("the other one signed", x.likely(below, 0), NONE);
    }

    private static void exact(Checks c) {
        c.promise(25);
        CountSheets x = new CountSheets();
        int[] zones = {0, 0, 0, 0, 1, 1, 1, 1, 2, 2, 2, 2};
        for (int place = 0; place < 12; place++) {
            CountSheets y = new CountSheets();
            Stock.closed(y, place, 0, 0);
            c.equal("not signed", y.exact(zones[place]), NONE);
            y.sign(0, 0, 0);
            c.equal("of the place's zone", y.exact(zones[place]), 1000);
            c.equal("of another zone", y.exact((zones[place] + 1) % 3), NONE);
        }
        Stock.counted(x, 4, 0, 0);
        Stock.agree(x, 0, 1, 7);
        Stock.agree(x, 0, 2, 0);
        x.close(0);
        x.sign(0, 1, 0);
        c.equal("0 of 1", x.exact(1), 0);
        x.sign(0, 0, 0);
        c.equal("1 of 2", x.exact(1), 500);
        x.sign(0, 2, 0);
        c.equal("2 of 3", x.exact(1), 666);
        x.move(4, NONE, 2, 5, 0);
        c.equal("the gap that there was then", x.exact(1), 666);
        Stock.closed(x, 7, 0, 7);
        x.sign(1, 0, 0);
        c.equal("2 of 4", x.exact(1), 500);
        Stock.closed(x, 8, 0, 3);
        x.sign(2, 0, 0);
        c.equal("another zone", x.exact(2), 0);
        c.equal("2 of 4", x.exact(1), 500);
        c.throwing("zone -1", Checks.INDEX, () -> x.exact(-1));
        c.throwing("zone 3", Checks.INDEX, () -> x.exact(3));
    }

    private interface OfLine {
        void ask(CountSheets x, int sheet, int article);
    }

    private static void noSuchSheetOrArticle(Checks c) {
        OfLine[] questions = {
            (x, s, a) -> x.stateOf(s), (x, s, a) -> x.cutOf(s), CountSheets::counts, CountSheets::agreed,
            CountSheets::gap, CountSheets::isSigned, CountSheets::likely};
        for (int i = 0; i < questions.length; i++) {
            OfLine question = questions[i];
            c.promise(18 + i);
            CountSheets x = new CountSheets();
            c.throwing("no sheets", Checks.INDEX, () -> question.ask(x, 0, 0));
            Stock.closed(x, 0, 0, 0);
            c.throwing("sheet -1", Checks.INDEX, () -> question.ask(x, -1, 0));
            c.throwing("sheet 1", Checks.INDEX, () -> question.ask(x, 1, 0));
            c.throwing("sheet MAX", Checks.INDEX, () -> question.ask(x, Integer.MAX_VALUE, 0));
            c.throwing("sheet MIN", Checks.INDEX, () -> question.ask(x, Integer.MIN_VALUE, 0));
            if (i >= 2) {
                c.throwing("article -1", Checks.INDEX, () -> question.ask(x, 0, -1));
                c.throwing("article 5", Checks.INDEX, () -> question.ask(x, 0, 5));
            }
        }
    }
}
