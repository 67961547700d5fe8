/** The promises 13 to 16: both sides of each boundary, by sentences. */
final class BookEdgesTest {
    private static final int NONE = CountSheets.NONE;

    public static void main(String[] args) {
        Edges e = new Edges("BookEdgesTest");
        bookOfPlace(e);
        bookOfArticle(e);
        bookNow(e);
        bookAtOfPlaceAndArticle(e);
        bookAtMinute(e);
        bookAtQuantity(e);
        worthOfPlace(e);
        worthAbove0(e);
        worthOfAllArticles(e);
        suggestedGreatest(e);
        suggestedMinutes(e);
        suggestedLatestSheet(e);
        suggestedLowest(e);
        suggestedWithoutOpenSheet(e);
        suggestedNone(e);
        suggestedBeyondAnInt(e);
        e.end();
    }

    /** At each place as many of each article as its number says: 10 times the place, the article, and 1. */
    private static CountSheets full() {
        CountSheets x = new CountSheets();
        for (int place = 0; place < 12; place++) {
            for (int article = 0; article < 5; article++) {
                x.move(NONE, place, article, 10 * place + article + 1, 0);
            }
        }
        return x;
    }

    private static void bookOfPlace(Edges e) {
        e.sentence(13, "`place`: 0 to 11");
        e.on(BookEdgesTest::full);
        e.range("book(.., 4)", 0, 11, Checks.INDEX, (x, place) -> x.book(place, 4));
        e.asked("book(0, 4)", 5, x -> x.book(0, 4));
        e.asked("book(11, 4)", 115, x -> x.book(11, 4));
        e.sentence(13, "Throws `IndexOutOfBoundsException` if there is no such place or article");
        e.on(BookEdgesTest::full);
        e.farOut("book(.., 4)", 0, 11, Checks.INDEX, (x, place) -> x.book(place, 4));
        e.noSuch("book(NONE, 0), though outside is a place to move from", x -> x.book(NONE, 0));
    }

    private static void bookOfArticle(Edges e) {
        e.sentence(13, "`article`: 0 to 4");
        e.on(BookEdgesTest::full);
        e.range("book(0, ..)", 0, 4, Checks.INDEX, (x, article) -> x.book(0, article));
        e.range("book(11, ..)", 0, 4, Checks.INDEX, (x, article) -> x.book(11, article));
        e.asked("book(11, 0)", 111, x -> x.book(11, 0));
        e.asked("book(0, 0)", 1, x -> x.book(0, 0));
        e.sentence(13, "Throws `IndexOutOfBoundsException` if there is no such place or article");
        e.on(BookEdgesTest::full);
        e.farOut("book(5, ..)", 0, 4, Checks.INDEX, (x, article) -> x.book(5, article));
    }

    private static void bookNow(Edges e) {
        e.sentence(13, "Returns the book of a place and article now.");
        e.on(() -> {
            CountSheets x = new CountSheets();
            x.pass(1);
            x.move(NONE, 0, 0, 5, 1);
            return x;
        });
        e.asked("a move at now", 5, x -> x.book(0, 0));
        e.asked("a minute before", 0, x -> x.bookAt(0, 0, 0));
        e.taken("a signed count with the cut now", 8, x -> {
            Stock.closed(x, 0, 0, 8);
            x.sign(0, 0, 0);
            return x.book(0, 0);
        });
        e.on(CountSheets::new);
        e.taken("as much as can be", 300000, x -> {
            Stock.closed(x, 0, 0, 100000);
            x.setBound(0, 100000);
            x.sign(0, 0, 0);
            x.pass(1);
            for (int i = 0; i < 200; i++) {
                x.move(NONE, 0, 0, 1000, 1);
            }
            return x.book(0, 0);
        });
    }

    private static void bookAtOfPlaceAndArticle(Edges e) {
        e.sentence(14, "`place`: 0 to 11");
        e.on(BookEdgesTest::full);
        e.range("bookAt(.., 4, 0)", 0, 11, Checks.INDEX, (x, place) -> x.bookAt(place, 4, 0));
        e.asked("bookAt(11, 4, 0)", 115, x -> x.bookAt(11, 4, 0));
        e.sentence(14, "`article`: 0 to 4");
        e.on(BookEdgesTest::full);
        e.range("bookAt(0, .., 0)", 0, 4, Checks.INDEX, (x, article) -> x.bookAt(0, article, 0));
        e.asked("bookAt(0, 0, 0)", 1, x -> x.bookAt(0, 0, 0));
        e.sentence(14, "Throws `IndexOutOfBoundsException` if there is no such place or article");
        e.on(BookEdgesTest::full);
        e.farOut("bookAt(.., 4, 0)", 0, 11, Checks.INDEX, (x, place) -> x.bookAt(place, 4, 0));
        e.farOut("bookAt(0, .., 0)", 0, 4, Checks.INDEX, (x, article) -> x.bookAt(0, article, 0));
        e.noSuch("bookAt(NONE, 0, 0)", x -> x.bookAt(NONE, 0, 0));
    }

    private static void bookAtMinute(Edges e) {
        e.sentence(14, "`minute`: 0 to now");
        e.on(Stock::busy);
        e.range("bookAt(0, 0, ..)", 0, 20, Checks.ARGUMENT, (x, minute) -> x.bookAt(0, 0, minute));
        e.on(CountSheets::new);
        e.range("bookAt(0, 0, ..) of a new object", 0, 0, Checks.ARGUMENT, (x, minute) -> x.bookAt(0, 0, minute));
        e.on(() -> {
            CountSheets x = new CountSheets();
            x.pass(1);
            return x;
        });
        e.range("bookAt(0, 0, ..) after a minute", 0, 1, Checks.ARGUMENT, (x, minute) -> x.bookAt(0, 0, minute));
        e.sentence(14, "Throws `IllegalArgumentException` if minute is out of range");
        e.on(Stock::busy);
        e.farOut("bookAt(11, 4, ..)", 0, 20, Checks.ARGUMENT, (x, minute) -> x.bookAt(11, 4, minute));
    }

    private static void bookAtQuantity(Edges e) {
        e.sentence(14, "Returns the book of a place and article at a minute.");
        e.on(() -> {
            CountSheets x = new CountSheets();
            x.pass(10);
            x.move(NONE, 0, 0, 7, 5);
            Stock.closed(x, 0, 0, 20);
            x.sign(0, 0, 0);
            x.pass(10);
            x.move(0, NONE, 0, 30, 15);
            return x;
        });
        int[] minutes = {0, 4, 5, 9, 10, 14, 15, 20};
        int[] books = {0, 0, 7, 7, 20, 20, -10, -10};
        for (int i = 0; i < minutes.length; i++) {
            int minute = minutes[i];
            e.asked("at " + minute, books[i], x -> x.bookAt(0, 0, minute));
        }
    }

    private static void worthOfPlace(Edges e) {
        e.sentence(15, "`place`: 0 to 11");
        e.on(BookEdgesTest::full);
        e.range("worth(..)", 0, 11, Checks.INDEX, CountSheets::worth);
        e.asked("worth(0)", 15, x -> x.worth(0));
        e.asked("worth(11)", 565, x -> x.worth(11));
        e.sentence(15, "Throws `IndexOutOfBoundsException` if there is no such place");
        e.on(BookEdgesTest::full);
        e.farOut("worth(..)", 0, 11, Checks.INDEX, CountSheets::worth);
        e.noSuch("worth(NONE)", x -> x.worth(NONE));
    }

    private static void worthAbove0(Edges e) {
        e.sentence(15, "the sum over all articles of the price times the book now, as far as that is above 0");
        e.on(() -> {
            CountSheets x = new CountSheets();
            x.setPrice(1, 10);
            x.move(NONE, 6, 1, 3, 0);
            return x;
        });
        e.asked("a book of 3", 30, x -> x.worth(6));
        e.taken("a book of 1", 10, x -> worthAfterTaking(x, 2));
        e.taken("a book of 0", 0, x -> worthAfterTaking(x, 3));
        e.taken("a book of -1", 0, x -> worthAfterTaking(x, 4));
        e.taken("one of -997, which lessens no other", 30, x -> {
            x.move(6, NONE, 4, 997, 0);
            return x.worth(6);
        });
        e.taken("a book of 1 at a later minute", 40, x -> {
            x.pass(1);
            x.move(NONE, 6, 1, 1, 1);
            return x.worth(6);
        });
        e.taken("without a price", 0, x -> {
            x.setPrice(1, 0);
            return x.worth(6);
        });
    }

    private static int worthAfterTaking(CountSheets x, int quantity) {
        x.move(6, NONE, 1, quantity, 0);
        return x.worth(6);
    }

    private static void worthOfAllArticles(Edges e) {
        e.sentence(15, "Returns the worth.");
        for (int article = 0; article < 5; article++) {
            int a = article;
            e.taken("of the article " + a + " alone", 6000, x -> {
                x.setPrice(a, 1000);
                x.move(NONE, 2, a, 6, 0);
                return x.worth(2);
            });
        }
        e.taken("as much as can be", 700000000, x -> {
            mostWorth(x, 2);
            return x.worth(2);
        });
    }

    /** Signed counts of 100000 of all articles, 200 moves of 1000 after their cut, and prices of 1000. */
    private static void mostWorth(CountSheets x, int place) {
        int sheet = x.open(place);
        x.setBound(0, 1000000);
        for (int article = 0; article < 5; article++) {
            Stock.agree(x, sheet, article, 100000);
        }
        x.close(sheet);
        x.pass(1);
        for (int article = 0; article < 5; article++) {
            x.sign(sheet, article, 0);
            x.setPrice(article, 1000);
        }
        for (int i = 0; i < 200; i++) {
            x.move(NONE, place, i % 5, 1000, 1);
        }
    }

    // ---- promise 16: suggested

    private static void suggestedGreatest(Edges e) {
        e.sentence(16, "the one for which the worth and 1, together, times the minutes .. is greatest");
        e.on(() -> worths(1, 2));
        e.asked("worths 1 and 2", 1, CountSheets::suggested);
        e.on(() -> worths(2, 2));
        e.asked("worths 2 and 2", 0, CountSheets::suggested);
        e.on(() -> worths(2, 1));
        e.asked("worths 2 and 1", 0, CountSheets::suggested);
        e.on(() -> worths(0, 0, 0, 0, 0, 0, 0, 0, 0, 0, 0, 1));
        e.asked("the last place", 11, CountSheets::suggested);
        e.on(() -> {
            CountSheets x = new CountSheets();
            x.move(0, 1, 0, 5, 0);
            x.move(1, 2, 0, 5, 0);
            return x;
        });
        e.asked("the place 0 below 0, the place 2 above", 2, CountSheets::suggested);
    }

    private static CountSheets worths(int... worths) {
        CountSheets x = new CountSheets();
        for (int place = 0; place < worths.length; place++) {
            if (worths[place] > 0) {
                x.move(NONE, place, 0, worths[place], 0);
            }
        }
        return x;
    }

    /** At the minute 0 the place 1 has this worth and a CLOSED sheet; the other places have no sheet and no worth. */
    private static CountSheets sheetFor1(int worth, int minutes) {
        CountSheets x = worths(0, worth);
        x.close(x.open(1));
        Stock.passTo(x, minutes);
        return x;
    }

    private static void suggestedMinutes(Edges e) {
        e.sentence(16, "times the minutes since the cut of the latest sheet for it (now and 1, together, without one)");
        e.on(() -> sheetFor1(1000, 0));
        e.asked("1001 times 0 against 1 times 1", 0, CountSheets::suggested);
        e.on(() -> sheetFor1(1, 1));
        e.asked("2 times 1 against 1 times 2", 0, CountSheets::suggested);
        e.on(() -> sheetFor1(2, 1));
        e.asked("3 times 1 against 1 times 2", 1, CountSheets::suggested);
        e.on(() -> sheetFor1(1, 2));
        e.asked("2 times 2 against 1 times 3", 1, CountSheets::suggested);
        e.on(() -> sheetFor1(0, 9));
        e.asked("1 times 9 against 1 times 10", 0, CountSheets::suggested);
    }

    private static void suggestedLatestSheet(Edges e) {
        e.sentence(16, "since the cut of the latest sheet for it");
        e.on(() -> {
            CountSheets x = sheetFor1(9, 10);
            x.close(x.open(1));
            x.pass(1);
            return x;
        });
        e.asked("10 times 1 (not 11) against 1 times 12", 0, CountSheets::suggested);
        e.on(() -> {
            CountSheets x = sheetFor1(9, 10);
            x.close(x.open(1));
            x.pass(2);
            return x;
        });
        e.asked("10 times 2 against 1 times 13", 1, CountSheets::suggested);
        e.on(() -> {
            CountSheets x = sheetFor1(9, 10);
            int sheet = x.open(1);
            x.pass(2);
            x.close(sheet);
            return x;
        });
        e.asked("the cut, not when it was closed", 1, CountSheets::suggested);
        e.on(() -> {
            CountSheets x = Stock.withSheets(39);
            x.move(NONE, 3, 0, 1000, 0);
            x.pass(5);
            x.close(x.open(3));
            return x;
        });
        e.asked("of 40 sheets the last one", 0, CountSheets::suggested);
    }

    private static void suggestedLowest(Edges e) {
        e.sentence(16, "of several the lowest");
        e.on(CountSheets::new);
        e.asked("all of them", 0, CountSheets::suggested);
        e.on(() -> worths(0, 0, 0, 7, 0, 7, 0, 0, 0, 0, 0, 7));
        e.asked("3, 5 and 11", 3, CountSheets::suggested);
        e.on(() -> worths(0, 0, 0, 0, 0, 0, 0, 0, 0, 0, 7, 7));
        e.asked("10 and 11", 10, CountSheets::suggested);
        e.on(() -> worths(0, 0, 0, 0, 0, 0, 0, 0, 0, 0, 7, 8));
        e.asked("11, one more", 11, CountSheets::suggested);
        e.on(() -> {
            CountSheets x = Stock.withSheets(12);
            x.move(NONE, 7, 0, 1000, 0);
            return x;
        });
        e.asked("all at 0 minutes", 0, CountSheets::suggested);
    }

    private static void suggestedWithoutOpenSheet(Edges e) {
        e.sentence(16, "of those without an OPEN sheet");
        e.on(() -> {
            CountSheets x = worths(0, 0, 0, 50);
            x.open(3);
            x.pass(9);
            return x;
        });
        e.asked("OPEN for the greatest", 0, CountSheets::suggested);
        e.taken("CLOSED for it", 3, x -> {
            x.close(0);
            return x.suggested();
        });
        e.taken("CLOSED, then OPEN again", 0, x -> {
            x.close(0);
            x.open(3);
            return x.suggested();
        });
    }

    private static void suggestedNone(Edges e) {
        e.sentence(16, "Returns the place; NONE if all have OPEN sheets.");
        e.on(() -> allOpenBut(NONE));
        e.asked("all have", NONE, CountSheets::suggested);
        for (int place = 0; place < 12; place++) {
            int p = place;
            e.on(() -> allOpenBut(p));
            e.asked("all have but " + p, p, CountSheets::suggested);
            e.on(() -> allOpenBut(NONE));
            e.taken("all have, then one is closed in the minute of its cut", p, x -> {
                x.close(p);
                return x.suggested();
            });
        }
    }

    private static CountSheets allOpenBut(int left) {
        CountSheets x = new CountSheets();
        for (int place = 0; place < 12; place++) {
            if (place != left) {
                x.open(place);
            }
        }
        return x;
    }

    // The product 2800000004, wrapped around, would be below 0.
    private static void suggestedBeyondAnInt(Edges e) {
        e.sentence(16, "the worth and 1, together, times the minutes");
        e.taken("700000001 times 3, within an int", 7, x -> suggestedAt(x, 3));
        e.taken("700000001 times 4, beyond an int", 7, x -> suggestedAt(x, 4));
        e.taken("700000001 times 100003, far beyond", 7, x -> suggestedAt(x, 100003));
    }

    private static int suggestedAt(CountSheets x, int minutes) {
        mostWorth(x, 7);
        Stock.passTo(x, minutes);
        return x.suggested();
    }
}
