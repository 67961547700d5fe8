/** Promises 13 to 16: the book, the worth of a place and the place suggested for counting. */
final class BookTest {
    private static final int NONE = CountSheets.NONE;

    public static void main(String[] args) {
        Checks c = new Checks("BookTest");
        book(c);
        bookOfSignedCounts(c);
        bookAt(c);
        bookAtOfSignedCounts(c);
        worth(c);
        suggested(c);
        suggestedByMinutes(c);
        suggestedOfLargeWorths(c);
        c.end();
    }

    private static void book(Checks c) {
        c.promise(13);
        CountSheets x = new CountSheets();
        x.pass(5);
        x.move(NONE, 11, 4, 9, 5);
        x.move(11, 0, 4, 12, 0);
        c.equal("book(11, 4), below 0", x.book(11, 4), -3);
        c.equal("book(0, 4)", x.book(0, 4), 12);
        c.equal("book(11, 3)", x.book(11, 3), 0);
        c.throwing("place -1", Checks.INDEX, () -> x.book(-1, 0));
        c.throwing("place 12", Checks.INDEX, () -> x.book(12, 0));
        c.throwing("article -1", Checks.INDEX, () -> x.book(0, -1));
        c.throwing("article 5", Checks.INDEX, () -> x.book(0, 5));
    }

    private static void bookOfSignedCounts(Checks c) {
        c.promise(13);
        CountSheets x = new CountSheets();
        Stock.closed(x, 0, 0, 10);
        c.equal("not signed", x.book(0, 0), 0);
        x.sign(0, 0, 0);
        c.equal("signed", x.book(0, 0), 10);
        c.equal("another article", x.book(0, 1), 0);
        c.equal("another place", x.book(1, 0), 0);
        x.pass(5);
        Stock.closed(x, 0, 0, 20);
        Stock.closed(x, 0, 0, 30);
        x.sign(2, 0, 0);
        c.equal("the later cut", x.book(0, 0), 30);
        x.sign(1, 0, 0);
        c.equal("of two cuts the same, signed last", x.book(0, 0), 20);
        x.pass(5);
        Stock.closed(x, 0, 0, 40);
        x.pass(5);
        Stock.closed(x, 0, 0, 50);
        x.sign(4, 0, 0);
        x.sign(3, 0, 0);
        c.equal("signed last, but of an earlier cut", x.book(0, 0), 50);
        x.move(NONE, 0, 0, 3, 15);
        c.equal("a move at the cut", x.book(0, 0), 50);
        x.pass(1);
        x.move(NONE, 0, 0, 3, 16);
        c.equal("a move after the cut", x.book(0, 0), 53);
        x.move(0, 1, 0, 1, 16);
        c.equal("a move away after the cut", x.book(0, 0), 52);
    }

    private static void bookAt(Checks c) {
        c.promise(14);
        CountSheets x = new CountSheets();
        x.pass(10);
        x.move(NONE, 3, 1, 5, 0);
        x.move(NONE, 3, 1, 7, 4);
        x.move(3, NONE, 1, 2, 10);
        c.equal("at 0", x.bookAt(3, 1, 0), 5);
        c.equal("at 3", x.bookAt(3, 1, 3), 5);
        c.equal("at 4", x.bookAt(3, 1, 4), 12);
        c.equal("at 9", x.bookAt(3, 1, 9), 12);
        c.equal("at 10", x.bookAt(3, 1, 10), 10);
        c.throwing("minute -1", Checks.ARGUMENT, () -> x.bookAt(3, 1, -1));
        c.throwing("minute 11", Checks.ARGUMENT, () -> x.bookAt(3, 1, 11));
        c.throwing("place -1", Checks.INDEX, () -> x.bookAt(-1, 1, 0));
        c.throwing("place 12", Checks.INDEX, () -> x.bookAt(12, 1, 0));
        c.throwing("article -1", Checks.INDEX, () -> x.bookAt(3, -1, 0));
        c.throwing("article 5", Checks.INDEX, () -> x.bookAt(3, 5, 0));
        c.throwing("article 5, minute 11", Checks.INDEX, () -> x.bookAt(3, 5, 11));
    }

    private static void bookAtOfSignedCounts(Checks c) {
        c.promise(14);
        CountSheets x = new CountSheets();
        x.move(NONE, 3, 1, 5, 0);
        x.pass(4);
        Stock.closed(x, 3, 1, 50);
        x.pass(4);
        Stock.closed(x, 3, 1, 90);
        x.sign(1, 1, 0);
        x.move(NONE, 3, 1, 1, 5);
        c.equal("at 7, only the later one signed", x.bookAt(3, 1, 7), 6);
        x.sign(0, 1, 0);
        c.equal("at 3", x.bookAt(3, 1, 3), 5);
        c.equal("at 4", x.bookAt(3, 1, 4), 50);
        c.equal("at 5", x.bookAt(3, 1, 5), 51);
        c.equal("at 7", x.bookAt(3, 1, 7), 51);
        c.equal("at 8", x.bookAt(3, 1, 8), 90);
        x.move(3, 2, 1, 9, 4);
        c.equal("at 4, after a move booked late at the cut", x.bookAt(3, 1, 4), 50);
        x.move(3, 2, 1, 9, 3);
        c.equal("at 3, after a move booked late", x.bookAt(3, 1, 3), -4);
        c.equal("at 5, after a move booked late", x.bookAt(3, 1, 5), 51);
        c.equal("the other place at 4", x.bookAt(2, 1, 4), 18);
    }

    private static void worth(Checks c) {
        c.promise(15);
        CountSheets x = new CountSheets();
        x.setPrice(0, 3);
        x.setPrice(1, 100);
        x.setPrice(4, 1000);
        x.move(NONE, 8, 0, 7, 0);
        x.move(8, NONE, 1, 5, 0);
        x.move(NONE, 8, 2, 11, 0);
        c.equal("below 0 left out", x.worth(8), 32);
        x.move(NONE, 8, 4, 1000, 0);
        c.equal("with the dear one", x.worth(8), 1000032);
        x.setPrice(0, 0);
        c.equal("without a price", x.worth(8), 1000011);
        c.equal("another place", x.worth(7), 0);
        Stock.closed(x, 8, 4, 0);
        x.setBound(0, 1000000);
        x.sign(0, 4, 0);
        c.equal("after a signed count", x.worth(8), 11);
        c.throwing("place -1", Checks.INDEX, () -> x.worth(-1));
        c.throwing("place 12", Checks.INDEX, () -> x.worth(12));
    }

    private static void suggested(Checks c) {
        c.promise(16);
        CountSheets x = new CountSheets();
        x.move(NONE, 9, 0, 5, 0);
        c.equal("the greatest worth", x.suggested(), 9);
        x.move(NONE, 4, 0, 5, 0);
        c.equal("of several the lowest", x.suggested(), 4);
        x.open(4);
        c.equal("the place 4 has an OPEN sheet", x.suggested(), 9);
        for (int place = 0; place < 12; place++) {
            if (place != 4) {
                x.open(place);
            }
        }
        c.equal("all have OPEN sheets", x.suggested(), NONE);
        x.close(7);
        c.equal("the only one, 0 minutes after its cut", x.suggested(), 7);
        x.close(6);
        c.equal("two with 0 minutes", x.suggested(), 6);
    }

    private static void suggestedByMinutes(Checks c) {
        c.promise(16);
        CountSheets x = new CountSheets();
        x.move(NONE, 2, 0, 9, 0);
        x.open(2);
        x.close(0);
        x.pass(1);
        c.equal("10 times 1 against 1 times 2", x.suggested(), 2);
        x.open(2);
        x.close(1);
        c.equal("10 times 0 against 1 times 2", x.suggested(), 0);
        x.move(NONE, 5, 0, 3, 1);
        c.equal("4 times 2", x.suggested(), 5);
        x.pass(1);
        c.equal("10 times 1 against 4 times 3", x.suggested(), 5);
        x.pass(1);
        c.equal("10 times 2 against 4 times 4", x.suggested(), 2);
        CountSheets y = new CountSheets();
        y.open(0);
        y.close(0);
        y.pass(9);
        y.move(NONE, 0, 0, 1, 0);
        c.equal("2 times 9 against 1 times 10", y.suggested(), 0);
        y.setPrice(0, 0);
        c.equal("1 times 9 against 1 times 10", y.suggested(), 1);
    }

    private static void suggestedOfLargeWorths(Checks c) {
        c.promise(16);
        CountSheets x = new CountSheets();
        x.setPrice(0, 1000);
        for (int i = 0; i < 7; i++) {
            x.move(NONE, 1, 0, 1000, 0);
            x.move(NONE, 2, 0, 1000, 0);
        }
        x.move(NONE, 2, 0, 1000, 0);
        for (int i = 0; i < 300; i++) {
            x.pass(1000);
        }
        c.equal("beyond an int", x.suggested(), 2);
    }
}
