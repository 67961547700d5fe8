/** The terms of "Moves and the book" and the promises 1 to 5, 11 and 12: both sides of each boundary, by sentences. */
final class TermsEdgesTest {
    private static final int NONE = CountSheets.NONE;
    private static final int[] ZONE_OF = {0, 0, 0, 0, 1, 1, 1, 1, 2, 2, 2, 2};

    public static void main(String[] args) {
        Edges e = new Edges("TermsEdgesTest");
        placesInZones(e);
        articlesWithPrices(e);
        personsWithBounds(e);
        firstMinute(e);
        upTo200Moves(e);
        betweenPlacesAndOutside(e);
        notLaterThanNow(e);
        endOfAMinute(e);
        greatestCut(e);
        signedLast(e);
        withoutSignedCount(e);
        minutesOfMoves(e);
        belowZero(e);
        emptyStock(e);
        prices(e);
        bounds(e);
        moveFrom(e);
        moveTo(e);
        moveOfArticle(e);
        moveOfQuantity(e);
        moveAtMinute(e);
        moveFromAndToTheSame(e);
        moveNumber(e);
        passInRange(e);
        passToNow(e);
        nowAndMoves(e);
        e.end();
    }

    // ---- terms: moves and the book

    private static void placesInZones(Edges e) {
        e.sentence(0, "There are the places 0 to 11, in three zones of four, 0 to 3 being those of the zone 0 and so on");
        for (int place = 0; place < 12; place++) {
            int p = place;
            e.on(() -> signedAt(p, 0, 0));
            for (int zone = 0; zone < 3; zone++) {
                int z = zone;
                e.taken("zone " + z + " of a count at " + p, ZONE_OF[p] == z ? 1000 : NONE, x -> x.exact(z));
            }
        }
        e.on(CountSheets::new);
        e.noSuch("place 12", x -> x.worth(12));
        e.noSuch("zone 3", x -> x.exact(3));
    }

    private static CountSheets signedAt(int place, int article, int quantity) {
        CountSheets x = new CountSheets();
        Stock.closed(x, place, article, quantity);
        x.sign(0, article, 0);
        return x;
    }

    private static void articlesWithPrices(Edges e) {
        e.sentence(0, "the articles 0 to 4, each with a price, 1 at first");
        for (int article = 0; article < 5; article++) {
            int a = article;
            e.taken("first price of " + a, 1, x -> x.setPrice(a, 1000));
            e.taken("worth of 7 of the article " + a, 7, x -> {
                x.move(NONE, 0, a, 7, 0);
                return x.worth(0);
            });
        }
        e.noSuch("article 5", x -> x.setPrice(5, 1));
    }

    private static void personsWithBounds(Edges e) {
        e.sentence(0, "and the persons 0 to 5, each with a bound, 100 at first");
        for (int person = 0; person < 6; person++) {
            int p = person;
            e.on(CountSheets::new);
            e.taken("first bound of " + p, 100, x -> x.setBound(p, 0));
            e.on(() -> closedAt(100));
            e.taken("sign a gap of 100", 100, x -> x.sign(0, 0, p));
            e.on(() -> closedAt(101));
            e.wrongState("sign a gap of 101", x -> x.sign(0, 0, p));
        }
        e.noSuch("person 6", x -> x.setBound(6, 1));
    }

    private static CountSheets closedAt(int quantity) {
        CountSheets x = new CountSheets();
        Stock.closed(x, 0, 0, quantity);
        return x;
    }

    private static void firstMinute(Edges e) {
        e.sentence(0, "Now is the minute 0 at first.");
        e.taken("now()", 0, CountSheets::now);
        e.taken("a move at 0", 0, x -> x.move(0, 1, 0, 1, 0));
        e.outOfRange("a move at 1", x -> x.move(0, 1, 0, 1, 1));
        e.taken("bookAt 0", 0, x -> x.bookAt(0, 0, 0));
        e.outOfRange("bookAt 1", x -> x.bookAt(0, 0, 1));
        e.taken("a cut", 0, x -> x.cutOf(x.open(0)));
    }

    private static void upTo200Moves(Edges e) {
        e.sentence(0, "Moves are numbered from 0; there are up to 200.");
        e.taken("the 1st move", 0, x -> x.move(NONE, 0, 0, 1, 0));
        e.taken("the 2nd move", 1, x -> {
            x.move(NONE, 0, 0, 1, 0);
            return x.move(NONE, 0, 0, 1, 0);
        });
        e.on(() -> Stock.withMoves(199));
        e.taken("the 200th move", 199, x -> x.move(0, NONE, 0, 1, 0));
        e.on(() -> Stock.withMoves(200));
        e.taken("moves()", 200, CountSheets::moves);
        e.taken("book of 200 moves", 200, x -> x.book(0, 0));
        e.wrongState("the 201st move, from outside", x -> x.move(NONE, 0, 0, 1, 0));
        e.wrongState("the 201st move, to outside", x -> x.move(0, NONE, 0, 1, 0));
        e.wrongState("the 201st move, of another article", x -> x.move(7, 11, 4, 1000, 0));
        e.taken("a sheet after 200 moves", 200, x -> {
            Stock.closed(x, 0, 0, 400);
            x.setBound(5, 200);
            return x.sign(0, 0, 5);
        });
    }

    private static void betweenPlacesAndOutside(Edges e) {
        e.sentence(0, "A move takes a quantity of an article from one place, or from outside, to another one, or outside");
        e.taken("from outside to 0", "3 0 0", x -> booksAfter(x, NONE, 0));
        e.taken("from outside to 11", "0 0 3", x -> booksAfter(x, NONE, 11));
        e.taken("from 0 to outside", "-3 0 0", x -> booksAfter(x, 0, NONE));
        e.taken("from 11 to outside", "0 0 -3", x -> booksAfter(x, 11, NONE));
        e.taken("from 0 to 1", "-3 3 0", x -> booksAfter(x, 0, 1));
        e.taken("from 1 to 0", "3 -3 0", x -> booksAfter(x, 1, 0));
        e.taken("from 11 to 0", "3 0 -3", x -> booksAfter(x, 11, 0));
        e.taken("from 0 to 11", "-3 0 3", x -> booksAfter(x, 0, 11));
        e.on(Stock::busy);
        for (int place = NONE; place < 12; place++) {
            int p = place;
            e.outOfRange("from " + p + " to " + p, x -> x.move(p, p, 0, 1, 0));
        }
    }

    private static String booksAfter(CountSheets x, int from, int to) {
        x.move(from, to, 0, 3, 0);
        return x.book(0, 0) + " " + x.book(1, 0) + " " + x.book(11, 0);
    }

    private static CountSheets passed(int minutes) {
        CountSheets x = new CountSheets();
        Stock.passTo(x, minutes);
        return x;
    }

    private static void notLaterThanNow(Edges e) {
        e.sentence(0, "at a minute that is not later than now");
        e.on(() -> passed(7));
        e.taken("at now, 7", 0, x -> x.move(NONE, 0, 0, 1, 7));
        e.outOfRange("at 8", x -> x.move(NONE, 0, 0, 1, 8));
        e.on(() -> passed(8));
        e.taken("at now, 8", 0, x -> x.move(NONE, 0, 0, 1, 8));
        e.outOfRange("at 9", x -> x.move(NONE, 0, 0, 1, 9));
    }

    private static void endOfAMinute(Edges e) {
        e.sentence(0, "A signed count is the quantity of an article that was at a place at the end of a minute, its cut.");
        e.on(() -> {
            CountSheets x = passed(5);
            Stock.closed(x, 3, 2, 10);
            x.pass(1);
            x.sign(0, 2, 0);
            return x;
        });
        e.taken("a move booked late, a minute before the cut", 10, x -> bookAfterMoveAt(x, 4));
        e.taken("a move booked late, at the cut", 10, x -> bookAfterMoveAt(x, 5));
        e.taken("a move, a minute after the cut", 9, x -> bookAfterMoveAt(x, 6));
    }

    private static int bookAfterMoveAt(CountSheets x, int minute) {
        x.move(3, 4, 2, 1, minute);
        return x.book(3, 2);
    }

    private static void greatestCut(Edges e) {
        e.sentence(0, "The book of a place and article at a minute is the signed count of them with the greatest cut not later than the minute");
        for (int first = 0; first < 2; first++) {
            int signedFirst = first;
            e.on(() -> withCutsAt4And8(signedFirst));
            e.taken("at 3", 0, x -> x.bookAt(11, 4, 3));
            e.taken("at 4", 50, x -> x.bookAt(11, 4, 4));
            e.taken("at 7", 50, x -> x.bookAt(11, 4, 7));
            e.taken("at 8", 90, x -> x.bookAt(11, 4, 8));
            e.taken("at 9", 90, x -> x.bookAt(11, 4, 9));
            e.taken("now", 90, x -> x.book(11, 4));
        }
        e.on(() -> {
            CountSheets x = new CountSheets();
            Stock.addSheets(x, 39);
            x.pass(1);
            Stock.closed(x, 11, 4, 6);
            x.sign(39, 4, 5);
            return x;
        });
        e.taken("of the last sheet, before its cut", 0, x -> x.bookAt(11, 4, 0));
        e.taken("of the last sheet, at its cut", 6, x -> x.bookAt(11, 4, 1));
    }

    private static CountSheets withCutsAt4And8(int signedFirst) {
        CountSheets x = passed(4);
        Stock.closed(x, 11, 4, 50);
        x.pass(4);
        Stock.closed(x, 11, 4, 90);
        x.pass(1);
        x.sign(signedFirst, 4, 0);
        x.sign(1 - signedFirst, 4, 0);
        return x;
    }

    private static void signedLast(Edges e) {
        e.sentence(0, "of several the one that was signed last");
        int[][] orders = {{0, 1, 2}, {0, 2, 1}, {1, 0, 2}, {1, 2, 0}, {2, 0, 1}, {2, 1, 0}};
        int[] quantities = {30, 10, 20};
        for (int[] order : orders) {
            e.on(() -> {
                CountSheets x = passed(6);
                for (int quantity : quantities) {
                    Stock.closed(x, 5, 1, quantity);
                }
                for (int sheet : order) {
                    x.sign(sheet, 1, 0);
                }
                return x;
            });
            e.taken("the sheet " + order[2] + " signed last", quantities[order[2]], x -> x.book(5, 1));
            e.taken("at the cut", quantities[order[2]], x -> x.bookAt(5, 1, 6));
            e.taken("before the cut", 0, x -> x.bookAt(5, 1, 5));
        }
        e.on(CountSheets::new);
        e.taken("signed last by settling", "4 5", x -> {
            x.move(NONE, 6, 1, 1, 0);
            closedAtPlaces5And6(x);
            x.sign(1, 1, 0);
            x.settle(0, 2, 1);
            return x.book(5, 1) + " " + x.book(6, 1);
        });
        e.taken("signed last after settling", "8 5", x -> {
            x.move(NONE, 6, 1, 9, 0);
            closedAtPlaces5And6(x);
            x.settle(2, 0, 1);
            x.sign(1, 1, 0);
            return x.book(5, 1) + " " + x.book(6, 1);
        });
    }

    private static void closedAtPlaces5And6(CountSheets x) {
        Stock.closed(x, 5, 1, 4);
        Stock.closed(x, 5, 1, 8);
        Stock.closed(x, 6, 1, 5);
    }

    private static void withoutSignedCount(Edges e) {
        e.sentence(0, "or 0 if there is none");
        e.taken("of a new object", 0, x -> x.book(0, 0));
        e.on(() -> {
            CountSheets x = passed(2);
            Stock.closed(x, 4, 2, 60);
            return x;
        });
        e.taken("CLOSED, but not signed", 0, x -> x.book(4, 2));
        e.on(() -> {
            CountSheets x = passed(2);
            Stock.closed(x, 4, 2, 60);
            x.sign(0, 2, 0);
            return x;
        });
        e.taken("signed", 60, x -> x.book(4, 2));
        e.taken("signed for the next place", 0, x -> x.book(5, 2));
        e.taken("signed for the place before", 0, x -> x.book(3, 2));
        e.taken("signed for the next article", 0, x -> x.book(4, 3));
        e.taken("signed for the article before", 0, x -> x.book(4, 1));
        e.taken("signed with a later cut", 0, x -> x.bookAt(4, 2, 1));
    }

    private static void minutesOfMoves(Edges e) {
        e.sentence(0, "at minutes later than that cut (at all minutes, without one) and not later than that minute");
        e.on(() -> {
            CountSheets x = passed(3);
            for (int minute = 0; minute <= 3; minute++) {
                x.move(NONE, 8, 3, 1 << minute, minute);
            }
            return x;
        });
        e.taken("without a cut, at 0", 1, x -> x.bookAt(8, 3, 0));
        e.taken("without a cut, at 1", 3, x -> x.bookAt(8, 3, 1));
        e.taken("without a cut, at 2", 7, x -> x.bookAt(8, 3, 2));
        e.taken("without a cut, at 3", 15, x -> x.bookAt(8, 3, 3));
        e.on(() -> {
            CountSheets x = new CountSheets();
            Stock.closed(x, 8, 3, 64);
            x.sign(0, 3, 0);
            x.pass(3);
            for (int minute = 0; minute <= 3; minute++) {
                x.move(NONE, 8, 3, 1 << minute, minute);
            }
            return x;
        });
        e.taken("with the cut 0, at 0", 64, x -> x.bookAt(8, 3, 0));
        e.taken("with the cut 0, at 1", 66, x -> x.bookAt(8, 3, 1));
        e.taken("with the cut 0, at 2", 70, x -> x.bookAt(8, 3, 2));
        e.taken("with the cut 0, at 3", 78, x -> x.bookAt(8, 3, 3));
    }

    private static void belowZero(Edges e) {
        e.sentence(0, "It can be below 0.");
        e.taken("one more taken than was there", -1, x -> {
            x.move(NONE, 2, 0, 5, 0);
            x.move(2, NONE, 0, 6, 0);
            return x.book(2, 0);
        });
        e.taken("as many taken as were there", 0, x -> {
            x.move(NONE, 2, 0, 5, 0);
            x.move(2, NONE, 0, 5, 0);
            return x.book(2, 0);
        });
        e.taken("as low as can be", -200000, x -> {
            for (int i = 0; i < 200; i++) {
                x.move(2, 3, 0, 1000, 0);
            }
            return x.bookAt(2, 0, 0);
        });
        e.taken("below a signed count", -2, x -> {
            Stock.closed(x, 2, 0, 1);
            x.sign(0, 0, 0);
            x.pass(1);
            x.move(2, 3, 0, 3, 1);
            return x.book(2, 0);
        });
    }

    // ---- promises

    private static void emptyStock(Edges e) {
        e.sentence(1, "Makes an empty stock.");
        e.taken("now()", 0, CountSheets::now);
        e.taken("moves()", 0, CountSheets::moves);
        e.taken("sheets()", 0, CountSheets::sheets);
        e.taken("suggested()", 0, CountSheets::suggested);
        for (int place = 0; place < 12; place++) {
            int p = place;
            e.taken("worth(" + p + ")", 0, x -> x.worth(p));
            for (int article = 0; article < 5; article++) {
                int a = article;
                e.taken("book(" + p + ", " + a + ")", 0, x -> x.book(p, a));
                e.taken("bookAt(" + p + ", " + a + ", 0)", 0, x -> x.bookAt(p, a, 0));
            }
        }
        for (int zone = 0; zone < 3; zone++) {
            int z = zone;
            e.taken("exact(" + z + ")", NONE, x -> x.exact(z));
        }
        e.noSuch("close(0)", x -> x.close(0));
        e.noSuch("count(0, 0, 0, 0)", x -> x.count(0, 0, 0, 0));
        e.noSuch("sign(0, 0, 0)", x -> x.sign(0, 0, 0));
        e.noSuch("settle(0, 0, 0)", x -> x.settle(0, 0, 0));
        e.noSuch("stateOf(0)", x -> x.stateOf(0));
        e.noSuch("cutOf(0)", x -> x.cutOf(0));
        e.noSuch("counts(0, 0)", x -> x.counts(0, 0));
        e.noSuch("agreed(0, 0)", x -> x.agreed(0, 0));
        e.noSuch("gap(0, 0)", x -> x.gap(0, 0));
        e.noSuch("isSigned(0, 0)", x -> x.isSigned(0, 0));
        e.noSuch("likely(0, 0)", x -> x.likely(0, 0));
        e.asked("another object", 20, x -> Stock.busy().now());
    }

    private interface Setter {
        int set(CountSheets x, int index, int value);
    }

    private static void prices(Edges e) {
        e.sentence(2, "`article`: 0 to 4");
        settingOf(e, "setPrice", 4, CountSheets::setPrice);
        e.sentence(2, "Throws `IndexOutOfBoundsException` if there is no such article");
        settingOfNone(e, "setPrice", 4, 1000, CountSheets::setPrice);
        e.sentence(2, "`price`: 0 to 1000");
        settingTo(e, "setPrice", 1000, CountSheets::setPrice);
        e.sentence(2, "Throws `IllegalArgumentException` if price is out of range");
        settingTooFar(e, "setPrice", 4, 1000, CountSheets::setPrice);
        e.sentence(2, "Returns the price before.");
        settingBefore(e, 4, 1, 1000, CountSheets::setPrice);
    }

    private static void bounds(Edges e) {
        e.sentence(3, "`person`: 0 to 5");
        settingOf(e, "setBound", 5, CountSheets::setBound);
        e.sentence(3, "Throws `IndexOutOfBoundsException` if there is no such person");
        settingOfNone(e, "setBound", 5, 1000000, CountSheets::setBound);
        e.sentence(3, "`bound`: 0 to 1000000");
        settingTo(e, "setBound", 1000000, CountSheets::setBound);
        e.sentence(3, "Throws `IllegalArgumentException` if bound is out of range");
        settingTooFar(e, "setBound", 5, 1000000, CountSheets::setBound);
        e.sentence(3, "Returns the bound before.");
        settingBefore(e, 5, 100, 1000000, CountSheets::setBound);
    }

    private static void settingOf(Edges e, String name, int last, Setter setter) {
        e.on(Stock::busy);
        e.range(name + "(.., 7)", 0, last, Checks.INDEX, (x, index) -> setter.set(x, index, 7));
    }

    private static void settingOfNone(Edges e, String name, int last, int most, Setter setter) {
        e.on(Stock::busy);
        e.farOut(name + "(.., 7)", 0, last, Checks.INDEX, (x, index) -> setter.set(x, index, 7));
        e.noSuch(name + " of the next after the last, to too much", x -> setter.set(x, last + 1, most + 1));
        e.noSuch(name + "(-1, -1)", x -> setter.set(x, -1, -1));
    }

    private static void settingTo(Edges e, String name, int most, Setter setter) {
        e.on(Stock::busy);
        e.range(name + "(0, ..)", 0, most, Checks.ARGUMENT, (x, value) -> setter.set(x, 0, value));
    }

    private static void settingTooFar(Edges e, String name, int last, int most, Setter setter) {
        e.on(Stock::busy);
        e.farOut(name + " of the last", 0, most, Checks.ARGUMENT, (x, value) -> setter.set(x, last, value));
        e.outOfRange(name + " of the last to -1", x -> setter.set(x, last, -1));
        e.outOfRange(name + " of the last to " + (most + 1), x -> setter.set(x, last, most + 1));
    }

    private static void settingBefore(Edges e, int last, int first, int most, Setter setter) {
        e.taken("the first one, then the least, then the most", first + " 0 " + most,
                x -> setter.set(x, 3, 0) + " " + setter.set(x, 3, most) + " " + setter.set(x, 3, 5));
        for (int index = 0; index <= last; index++) {
            int i = index;
            e.taken("of " + i + " its own", 10 + i, x -> {
                for (int each = 0; each <= last; each++) {
                    setter.set(x, each, 10 + each);
                }
                return setter.set(x, i, 0);
            });
        }
    }

    private static void moveFrom(Edges e) {
        e.sentence(4, "`from`: 0 to 11; NONE for outside");
        e.on(Stock::busy);
        e.range("from", NONE, 11, Checks.INDEX, (x, from) -> x.move(from, from == 5 ? 6 : 5, 0, 1, 20));
        e.sentence(4, "Throws `IndexOutOfBoundsException` if there is no such place or article");
        e.on(Stock::busy);
        e.farOut("move(.., 5, 0, 1, 20)", NONE, 11, Checks.INDEX, (x, from) -> x.move(from, 5, 0, 1, 20));
        e.noSuch("from 12 to 12", x -> x.move(12, 12, 0, 1, 20));
        e.noSuch("from -2 to -2", x -> x.move(-2, -2, 0, 1, 20));
        e.noSuch("from 12 to outside", x -> x.move(12, NONE, 0, 1, 20));
    }

    private static void moveTo(Edges e) {
        e.sentence(4, "`to`: 0 to 11; NONE for outside");
        e.on(Stock::busy);
        e.range("to", NONE, 11, Checks.INDEX, (x, to) -> x.move(to == 5 ? 6 : 5, to, 0, 1, 20));
        e.sentence(4, "Throws `IndexOutOfBoundsException` if there is no such place or article");
        e.on(Stock::busy);
        e.farOut("move(5, .., 0, 1, 20)", NONE, 11, Checks.INDEX, (x, to) -> x.move(5, to, 0, 1, 20));
        e.noSuch("from outside to 12", x -> x.move(NONE, 12, 0, 1, 20));
        e.noSuch("from outside to -2", x -> x.move(NONE, -2, 0, 1, 20));
    }

    private static void moveOfArticle(Edges e) {
        e.sentence(4, "`article`: 0 to 4");
        e.on(Stock::busy);
        e.range("move(NONE, 0, .., 1, 20)", 0, 4, Checks.INDEX, (x, article) -> x.move(NONE, 0, article, 1, 20));
        e.sentence(4, "Throws `IndexOutOfBoundsException` if there is no such place or article");
        e.on(Stock::busy);
        e.farOut("move(0, NONE, .., 1, 20)", 0, 4, Checks.INDEX, (x, article) -> x.move(0, NONE, article, 1, 20));
    }

    private static void moveOfQuantity(Edges e) {
        e.sentence(4, "`quantity`: 1 to 1000");
        e.on(Stock::busy);
        e.range("move(0, 1, 0, .., 20)", 1, 1000, Checks.ARGUMENT, (x, quantity) -> x.move(0, 1, 0, quantity, 20));
        e.taken("book after the least", -1, x -> {
            x.move(5, NONE, 0, 1, 20);
            return x.book(5, 0);
        });
        e.taken("book after the most", 1000, x -> {
            x.move(NONE, 5, 0, 1000, 20);
            return x.book(5, 0);
        });
        e.sentence(4, "Throws `IllegalArgumentException` if from and to are the same, or quantity or minute is out of range");
        e.on(Stock::busy);
        e.farOut("move(NONE, 11, 4, .., 0)", 1, 1000, Checks.ARGUMENT, (x, quantity) -> x.move(NONE, 11, 4, quantity, 0));
        e.outOfRange("quantity -1", x -> x.move(NONE, 11, 4, -1, 0));
    }

    private static void moveAtMinute(Edges e) {
        e.sentence(4, "`minute`: 0 to now");
        e.on(Stock::busy);
        e.range("move(0, 1, 0, 1, ..)", 0, 20, Checks.ARGUMENT, (x, minute) -> x.move(0, 1, 0, 1, minute));
        e.on(CountSheets::new);
        e.range("move(0, 1, 0, 1, ..) of a new object", 0, 0, Checks.ARGUMENT, (x, minute) -> x.move(0, 1, 0, 1, minute));
        e.sentence(4, "Throws `IllegalArgumentException` if from and to are the same, or quantity or minute is out of range");
        e.on(Stock::busy);
        e.farOut("move(NONE, 11, 4, 1, ..)", 0, 20, Checks.ARGUMENT, (x, minute) -> x.move(NONE, 11, 4, 1, minute));
    }

    private static void moveFromAndToTheSame(Edges e) {
        e.sentence(4, "Throws `IllegalArgumentException` if from and to are the same, or quantity or minute is out of range");
        e.on(Stock::busy);
        e.outOfRange("from 0 to 0", x -> x.move(0, 0, 0, 1, 20));
        e.outOfRange("from 11 to 11", x -> x.move(11, 11, 4, 1000, 0));
        e.outOfRange("from outside to outside", x -> x.move(NONE, NONE, 0, 1, 20));
        e.taken("from 10 to 11", 2, x -> x.move(10, 11, 4, 1000, 0));
        e.taken("from 0 to outside", 2, x -> x.move(0, NONE, 0, 1, 20));
    }

    private static void moveNumber(Edges e) {
        e.sentence(4, "Returns its number.");
        e.taken("the first", 0, x -> x.move(NONE, 0, 0, 1, 0));
        e.on(() -> Stock.withMoves(198));
        e.taken("the last but one", 198, x -> x.move(NONE, 0, 0, 1, 0));
        e.taken("the last", 199, x -> {
            x.move(NONE, 0, 0, 1, 0);
            return x.move(NONE, 0, 0, 1, 0);
        });
        e.sentence(4, "Throws `IllegalStateException` if there are 200 moves");
        e.on(() -> Stock.withMoves(199));
        e.taken("with 199 moves", 199, x -> x.move(NONE, 0, 0, 1, 0));
        e.on(Stock::busyWith200Moves);
        e.wrongState("with 200 moves", x -> x.move(NONE, 0, 0, 1, 0));
        e.wrongState("with 200 moves, another one", x -> x.move(3, 4, 4, 1000, 20));
    }

    private static void passInRange(Edges e) {
        e.sentence(5, "`minutes`: 1 to 1000");
        e.on(Stock::busy);
        e.range("pass(..)", 1, 1000, Checks.ARGUMENT, CountSheets::pass);
        e.sentence(5, "Throws `IllegalArgumentException` if minutes is out of range");
        e.on(Stock::busy);
        e.farOut("pass(..)", 1, 1000, Checks.ARGUMENT, CountSheets::pass);
        e.outOfRange("pass(-1)", x -> x.pass(-1));
    }

    private static void passToNow(Edges e) {
        e.sentence(5, "Returns now, then.");
        e.taken("the least, then the most, then the least", "1 1001 1002", x -> x.pass(1) + " " + x.pass(1000) + " " + x.pass(1));
        e.sentence(5, "Lets time pass.");
        e.taken("all the time that there is", 512000, x -> {
            for (int i = 0; i < 511; i++) {
                x.pass(1000);
            }
            return x.pass(1000);
        });
    }

    private static void nowAndMoves(Edges e) {
        e.sentence(11, "Returns now.");
        e.asked("at first", 0, CountSheets::now);
        e.on(() -> passed(1));
        e.asked("after a minute", 1, CountSheets::now);
        e.on(() -> passed(100000));
        e.asked("after many", 100000, CountSheets::now);
        e.sentence(12, "Returns how many moves there are.");
        e.asked("at first", 0, CountSheets::moves);
        e.on(() -> Stock.withMoves(1));
        e.asked("after one", 1, CountSheets::moves);
        e.on(() -> Stock.withMoves(200));
        e.asked("after all", 200, CountSheets::moves);
    }
}
