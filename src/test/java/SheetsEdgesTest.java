/** The terms of "Sheets" and the promises 6 to 10: both sides of each boundary, by sentences. */
final class SheetsEdgesTest {
    private static final int NONE = CountSheets.NONE;

    public static void main(String[] args) {
        Edges e = new Edges("SheetsEdgesTest");
        upTo40Sheets(e);
        cutOfASheet(e);
        openThenClosed(e);
        aPersonOnce(e);
        atMostThreePersons(e);
        twoTheSame(e);
        threeAllUnlike(e);
        noCountAfterAgreement(e);
        gapAtTheCut(e);
        signedOnClosedSheets(e);
        signedOnce(e);
        boundHighEnough(e);
        signedCount(e);
        gapsTogether0(e);
        settledOnClosedSheets(e);
        settledForDifferentPlaces(e);
        settledNeitherSigned(e);
        settledByNobodysBound(e);
        openPlace(e);
        openNumber(e);
        openRefused(e);
        countSheet(e);
        countPerson(e);
        countArticle(e);
        countQuantity(e);
        countAgrees(e);
        countRefused(e);
        closeSheet(e);
        closeAnswers(e);
        closeRefused(e);
        signSheet(e);
        signArticleAndPerson(e);
        signGap(e);
        signWithoutAgreement(e);
        signRefused(e);
        settleSheets(e);
        settleArticle(e);
        settleQuantity(e);
        settleWithoutAgreement(e);
        settleRefused(e);
        e.end();
    }

    /** An OPEN sheet for the place 3 on which the persons 0, 1 and so on counted these quantities of the article 2. */
    private static CountSheets open(int... quantities) {
        CountSheets x = new CountSheets();
        x.open(3);
        Stock.countAll(x, 0, 2, quantities);
        return x;
    }

    /** The same, CLOSED. */
    private static CountSheets closed(int... quantities) {
        CountSheets x = open(quantities);
        x.close(0);
        return x;
    }

    // ---- terms: sheets

    private static void upTo40Sheets(Edges e) {
        e.sentence(0, "There are up to 40 sheets, numbered from 0");
        e.taken("the 1st sheet", 0, x -> x.open(11));
        e.on(() -> Stock.withSheets(39));
        e.taken("the 40th sheet", 39, x -> x.open(3));
        e.taken("the 40th sheet is counted on, closed and signed", "true 1 100000", x -> {
            int sheet = x.open(3);
            x.setBound(5, 1000000);
            x.count(sheet, 0, 4, 100000);
            return x.count(sheet, 5, 4, 100000) + " " + x.close(sheet) + " " + x.sign(sheet, 4, 5);
        });
        e.on(() -> Stock.withSheets(40));
        e.taken("sheets()", 40, CountSheets::sheets);
        for (int place = 0; place < 12; place++) {
            int p = place;
            e.wrongState("the 41st sheet, for " + p, x -> x.open(p));
        }
    }

    private static void cutOfASheet(Edges e) {
        e.sentence(0, "each for a place, with the minute in which it was opened as its cut");
        e.on(() -> {
            CountSheets x = new CountSheets();
            x.open(0);
            x.pass(1);
            x.open(1);
            x.pass(1000);
            x.open(2);
            x.pass(1);
            x.close(1);
            return x;
        });
        e.taken("the first minute", 0, x -> x.cutOf(0));
        e.taken("the minute 1, though closed later", 1, x -> x.cutOf(1));
        e.taken("the minute 1001", 1001, x -> x.cutOf(2));
        e.taken("a minute later", 1002, x -> x.cutOf(x.open(3)));
    }

    private static void openThenClosed(Edges e) {
        e.sentence(0, "a sheet is OPEN, and CLOSED later");
        e.on(() -> open());
        e.taken("opened", CountSheets.OPEN, x -> x.stateOf(0));
        e.taken("and counted on", CountSheets.OPEN, x -> {
            Stock.agree(x, 0, 0, 4);
            return x.stateOf(0);
        });
        e.taken("closed", CountSheets.CLOSED, x -> {
            x.close(0);
            return x.stateOf(0);
        });
        e.on(() -> closed());
        e.wrongState("closed again", x -> x.close(0));
        e.taken("another one is opened", CountSheets.CLOSED, x -> {
            x.open(3);
            return x.stateOf(0);
        });
    }

    private static void aPersonOnce(Edges e) {
        e.sentence(0, "On an OPEN sheet a person can count an article once");
        for (int person = 0; person < 6; person++) {
            int p = person;
            e.on(() -> {
                CountSheets x = open();
                x.count(0, p, 2, 8);
                return x;
            });
            e.wrongState(p + " counts again, the same", x -> x.count(0, p, 2, 8));
            e.wrongState(p + " counts again, another quantity", x -> x.count(0, p, 2, 9));
            e.taken("another person", true, x -> x.count(0, (p + 1) % 6, 2, 8));
            e.taken("another article", false, x -> x.count(0, p, 3, 8));
            e.taken("another sheet", false, x -> x.count(x.open(4), p, 2, 8));
        }
    }

    private static void atMostThreePersons(Edges e) {
        e.sentence(0, "and at most three persons can");
        e.on(() -> open(1, 2));
        for (int person = 2; person < 6; person++) {
            int p = person;
            e.taken(p + " is the third", true, x -> x.count(0, p, 2, 3));
        }
        e.on(() -> open(1, 2, 3));
        for (int person = 0; person < 6; person++) {
            int p = person;
            e.wrongState(p + " as a fourth", x -> x.count(0, p, 2, 4));
        }
        e.taken("counts()", 3, x -> x.counts(0, 2));
    }

    private static void twoTheSame(Edges e) {
        e.sentence(0, "The counts of an article agree on a quantity if there are two that are the same, which is this quantity");
        agreeing(e, 0, 0, 0);
        agreeing(e, 1, 1, 1);
        agreeing(e, 100000, 100000, 100000);
        agreeing(e, 128, 128, 128);
        agreeing(e, NONE, 0, 1);
        agreeing(e, NONE, 1, 0);
        agreeing(e, NONE, 100000, 99999);
        agreeing(e, NONE, 0, 65536);
        agreeing(e, 0, 0, 1, 0);
        agreeing(e, 1, 0, 1, 1);
        agreeing(e, 1, 1, 0, 1);
        agreeing(e, 0, 1, 0, 0);
        agreeing(e, 100000, 0, 100000, 100000);
        agreeing(e, 0, 0, 100000, 0);
    }

    private static void agreeing(Edges e, int agreed, int... counts) {
        e.on(() -> open(counts));
        String what = "counts " + java.util.Arrays.toString(counts);
        e.taken(what, agreed, x -> x.agreed(0, 2));
        e.taken(what + " are " + counts.length, counts.length, x -> x.counts(0, 2));
    }

    private static void threeAllUnlike(Edges e) {
        e.sentence(0, "or if there are three, all unlike, which is the middle one of them then");
        int[][] threes = {{0, 1, 2}, {0, 1, 100000}, {0, 99999, 100000}, {7, 8, 9}};
        int[][] orders = {{0, 1, 2}, {0, 2, 1}, {1, 0, 2}, {1, 2, 0}, {2, 0, 1}, {2, 1, 0}};
        for (int[] three : threes) {
            for (int[] order : orders) {
                agreeing(e, three[1], three[order[0]], three[order[1]], three[order[2]]);
            }
        }
        agreeing(e, NONE, 0, 2);
        agreeing(e, NONE, 1);
        agreeing(e, NONE);
    }

    private static void noCountAfterAgreement(Edges e) {
        e.sentence(0, "As soon as they agree, the article cannot be counted on the sheet any more.");
        e.on(() -> open(4));
        e.taken("after one", true, x -> x.count(0, 5, 2, 4));
        refusedToAll(e, "after two the same", 4, 4);
        e.taken("another article", false, x -> x.count(0, 5, 3, 4));
        e.on(() -> open(4, 5));
        e.taken("after two unlike", true, x -> x.count(0, 5, 2, 4));
        refusedToAll(e, "after three with two the same", 4, 5, 4);
        refusedToAll(e, "after three all unlike", 4, 5, 6);
        e.taken("another sheet", false, x -> x.count(x.open(4), 5, 2, 4));
    }

    private static void refusedToAll(Edges e, String what, int... counts) {
        e.on(() -> open(counts));
        for (int person = 0; person < 6; person++) {
            int p = person;
            e.wrongState(what + ", by " + p, x -> x.count(0, p, 2, 4));
        }
    }

    private static void gapAtTheCut(Edges e) {
        e.sentence(0, "The gap of an article on a sheet is the quantity on which its counts agree, less the book of the place and article at the cut of the sheet, as it is now.");
        e.on(() -> {
            CountSheets x = new CountSheets();
            x.pass(5);
            x.move(NONE, 3, 2, 10, 5);
            x.open(3);
            Stock.agree(x, 0, 2, 10);
            x.pass(1);
            return x;
        });
        e.taken("as counted", 0, x -> x.gap(0, 2));
        e.taken("a move booked late, at the minute 0", -1, x -> gapAfterMoveAt(x, 0));
        e.taken("a move booked late, at the cut", -1, x -> gapAfterMoveAt(x, 5));
        e.taken("a move after the cut", 0, x -> gapAfterMoveAt(x, 6));
        e.taken("a count signed later, of the same cut", 3, x -> {
            CountSheets y = closed(8, 8);
            Stock.closed(y, 3, 2, 5);
            y.sign(1, 2, 0);
            return y.gap(0, 2);
        });
    }

    private static int gapAfterMoveAt(CountSheets x, int minute) {
        x.move(NONE, 3, 2, 1, minute);
        return x.gap(0, 2);
    }

    private static void signedOnClosedSheets(Edges e) {
        e.sentence(0, "On a CLOSED sheet an article on which its counts agree can be signed");
        e.on(() -> open(4, 4));
        e.wrongState("OPEN", x -> x.sign(0, 2, 0));
        e.on(() -> closed(4, 4));
        e.taken("CLOSED, two the same", 4, x -> x.sign(0, 2, 0));
        e.on(() -> closed(4, 6, 5));
        e.taken("CLOSED, three all unlike", 5, x -> x.sign(0, 2, 0));
        e.on(() -> closed());
        e.noElement("CLOSED, not counted", x -> x.sign(0, 2, 0));
    }

    private static void signedOnce(Edges e) {
        e.sentence(0, "once");
        e.on(() -> {
            CountSheets x = closed(4, 4);
            x.sign(0, 2, 0);
            return x;
        });
        for (int person = 0; person < 6; person++) {
            int p = person;
            e.wrongState("again, by " + p, x -> x.sign(0, 2, p));
        }
        e.taken("isSigned", true, x -> x.isSigned(0, 2));
    }

    private static void boundHighEnough(Edges e) {
        e.sentence(0, "by a person whose bound is at least the price times the gap, without its sign");
        bound(e, 1, 100, 100);
        bound(e, 1, -100, 100);
        bound(e, 1, 1, 1);
        bound(e, 1, -1, 1);
        bound(e, 1000, 1, 1000);
        bound(e, 1000, -1, 1000);
        bound(e, 3, 34, 102);
        bound(e, 3, -34, 102);
        bound(e, 1000, 1000, 1000000);
        bound(e, 1000, -999, 999000);
        bound(e, 10, 100000, 1000000);
        e.on(() -> bounded(1000, 0, 0));
        e.taken("no gap, with a bound of 0", 0, x -> x.sign(0, 0, 5));
        e.on(() -> bounded(0, 100000, 0));
        e.taken("no price, with a bound of 0", 100000, x -> x.sign(0, 0, 5));
        e.on(() -> bounded(1, 1, 0));
        e.wrongState("a gap of 1, with a bound of 0", x -> x.sign(0, 0, 5));
        e.on(() -> bounded(1, -1, 0));
        e.wrongState("a gap of -1, with a bound of 0", x -> x.sign(0, 0, 5));
        e.on(() -> bounded(1000, 1001, 1000000));
        e.wrongState("1001000, with a bound of 1000000", x -> x.sign(0, 0, 5));
        e.on(() -> bounded(1000, 100000, 1000000));
        e.wrongState("100000000, with a bound of 1000000", x -> x.sign(0, 0, 5));
        e.on(SheetsEdgesTest::greatestGapBelow0);
        e.wrongState("300000000, with a bound of 1000000", x -> x.sign(1, 0, 5));
        e.taken("300000, with a bound of 1000000", -300000, x -> {
            x.setPrice(0, 1);
            return x.sign(1, 0, 5);
        });
        e.taken("900000, with a bound of 1000000", -300000, x -> {
            x.setPrice(0, 3);
            return x.sign(1, 0, 5);
        });
        e.on(() -> {
            CountSheets x = greatestGapBelow0();
            x.setPrice(0, 4);
            return x;
        });
        e.wrongState("1200000, with a bound of 1000000", x -> x.sign(1, 0, 5));
    }

    /** The gap can be signed with just this bound, and not with one less. */
    private static void bound(Edges e, int price, int gap, int bound) {
        String what = "price " + price + ", gap " + gap + ", bound ";
        e.on(() -> bounded(price, gap, bound));
        e.taken(what + bound, gap, x -> x.sign(0, 0, 5));
        e.on(() -> bounded(price, gap, bound - 1));
        e.wrongState(what + (bound - 1), x -> x.sign(0, 0, 5));
    }

    private static CountSheets bounded(int price, int gap, int bound) {
        CountSheets x = Stock.gaps(gap);
        x.setPrice(0, price);
        x.setBound(5, bound);
        return x;
    }

    /** A signed count of 100000 and 200 moves of 1000 to the place after it, and then a count of 0. */
    private static CountSheets greatestGapBelow0() {
        CountSheets x = Stock.gaps(100000);
        x.setBound(5, 1000000);
        x.sign(0, 0, 5);
        x.pass(1);
        for (int i = 0; i < 200; i++) {
            x.move(NONE, 0, 0, 1000, 1);
        }
        Stock.closed(x, 0, 0, 0);
        x.setPrice(0, 1000);
        return x;
    }

    private static void signedCount(Edges e) {
        e.sentence(0, "That makes it a signed count.");
        e.on(() -> Stock.gaps(6, 9));
        e.taken("before", "0 -1", x -> x.book(0, 0) + " " + x.exact(0));
        e.taken("after", "6 0", x -> {
            x.sign(0, 0, 0);
            return x.book(0, 0) + " " + x.exact(0);
        });
        e.taken("of the other one, before", 0, x -> {
            x.sign(0, 0, 0);
            return x.book(1, 0);
        });
    }

    private static void gapsTogether0(Edges e) {
        e.sentence(0, "can be settled if their gaps are together 0 and not 0 each");
        settled(e, 1, -1);
        settled(e, 5, -5);
        settled(e, 999, -999);
        notSettled(e, 0, 0);
        notSettled(e, 5, -4);
        notSettled(e, 5, -6);
        notSettled(e, 4, -5);
        notSettled(e, 6, -5);
        notSettled(e, 5, 5);
        notSettled(e, -5, -5);
        notSettled(e, 0, 1);
        notSettled(e, 0, -1);
        e.on(SheetsEdgesTest::greatestGapsTogether0);
        e.taken("gaps of 100000", 100000, x -> x.settle(1, 2, 0));
    }

    private static void settled(Edges e, int gap, int other) {
        String what = "gaps " + gap + " and " + other;
        e.on(() -> Stock.gaps(gap, other));
        e.taken(what, Math.max(gap, other), x -> x.settle(0, 1, 0));
        e.taken(what + ", turned", Math.max(gap, other), x -> x.settle(1, 0, 0));
    }

    private static void notSettled(Edges e, int gap, int other) {
        String what = "gaps " + gap + " and " + other;
        e.on(() -> Stock.gaps(gap, other));
        e.wrongState(what, x -> x.settle(0, 1, 0));
        e.wrongState(what + ", turned", x -> x.settle(1, 0, 0));
    }

    /** The sheet 1 has the gap -100000, the sheet 2, for another place, 100000. */
    private static CountSheets greatestGapsTogether0() {
        CountSheets x = Stock.gaps(100000);
        x.setBound(5, 1000000);
        x.sign(0, 0, 5);
        x.pass(1);
        Stock.closed(x, 0, 0, 0);
        Stock.closed(x, 11, 0, 100000);
        return x;
    }

    private static void settledOnClosedSheets(Edges e) {
        e.sentence(0, "Two of them, of the same article on two CLOSED sheets");
        e.on(() -> {
            CountSheets x = Stock.gaps(5, -5);
            x.move(NONE, 2, 0, 5, 0);
            x.move(3, NONE, 0, 5, 0);
            Stock.counted(x, 2, 0, 0);
            Stock.counted(x, 3, 0, 0);
            return x;
        });
        e.wrongState("CLOSED and OPEN", x -> x.settle(0, 2, 0));
        e.wrongState("OPEN and CLOSED", x -> x.settle(2, 0, 0));
        e.wrongState("OPEN and OPEN", x -> x.settle(2, 3, 0));
        e.taken("CLOSED and CLOSED", 5, x -> x.settle(0, 1, 0));
        e.taken("both closed then", 5, x -> {
            x.close(2);
            x.close(3);
            return x.settle(2, 3, 0);
        });
        e.on(() -> {
            CountSheets x = Stock.gaps(5);
            x.move(NONE, 1, 1, 5, 0);
            Stock.closed(x, 1, 1, 0);
            return x;
        });
        e.noElement("of different articles, the first", x -> x.settle(0, 1, 0));
        e.noElement("of different articles, the other", x -> x.settle(0, 1, 1));
    }

    private static void settledForDifferentPlaces(Edges e) {
        e.sentence(0, "for different places");
        e.on(() -> {
            CountSheets x = Stock.gaps(5, -5);
            x.pass(1);
            x.move(NONE, 0, 0, 10, 1);
            Stock.closed(x, 0, 0, 5);
            return x;
        });
        e.taken("gap of the same place", -5, x -> x.gap(2, 0));
        e.wrongState("for the same place", x -> x.settle(0, 2, 0));
        e.wrongState("for the same place, turned", x -> x.settle(2, 0, 0));
        e.wrongState("a sheet and itself", x -> x.settle(0, 0, 0));
        e.wrongState("another sheet and itself", x -> x.settle(1, 1, 0));
        e.taken("for places side by side", 5, x -> x.settle(0, 1, 0));
        e.on(() -> {
            CountSheets x = Stock.gaps(5);
            x.move(NONE, 11, 0, 5, 0);
            Stock.closed(x, 11, 0, 0);
            return x;
        });
        e.taken("for the places 0 and 11", 5, x -> x.settle(0, 1, 0));
    }

    private static void settledNeitherSigned(Edges e) {
        e.sentence(0, "neither of them signed");
        for (int signed = 0; signed < 2; signed++) {
            int first = signed;
            e.on(() -> {
                CountSheets x = Stock.gaps(5, -5);
                x.sign(first, 0, 0);
                return x;
            });
            e.wrongState("the sheet " + first + " signed", x -> x.settle(0, 1, 0));
            e.wrongState("the sheet " + first + " signed, turned", x -> x.settle(1, 0, 0));
        }
        e.on(() -> {
            CountSheets x = Stock.gaps(5, -5, 5);
            x.settle(0, 1, 0);
            return x;
        });
        e.wrongState("both settled", x -> x.settle(0, 1, 0));
        e.wrongState("the other one settled", x -> x.settle(2, 1, 0));
        e.wrongState("the first one settled", x -> x.settle(1, 2, 0));
        e.on(() -> {
            CountSheets x = Stock.gaps(5, -5);
            x.open(2);
            x.open(3);
            Stock.agree(x, 2, 1, 0);
            Stock.agree(x, 3, 0, 0);
            return x;
        });
        e.taken("others not signed", 5, x -> x.settle(0, 1, 0));
    }

    private static void settledByNobodysBound(Edges e) {
        e.sentence(0, "both are signed then, by nobody's bound");
        e.on(() -> {
            CountSheets x = Stock.gaps(5, -5);
            x.setPrice(0, 1000);
            for (int person = 0; person < 6; person++) {
                x.setBound(person, 0);
            }
            return x;
        });
        e.wrongState("signed by a bound of 0", x -> x.sign(0, 0, 0));
        e.taken("settled, and signed", "5 true true", x -> x.settle(0, 1, 0) + " " + x.isSigned(0, 0) + " " + x.isSigned(1, 0));
        e.taken("their gaps and books", "5 -5 5 0", x -> {
            x.settle(1, 0, 0);
            return x.gap(0, 0) + " " + x.gap(1, 0) + " " + x.book(0, 0) + " " + x.book(1, 0);
        });
        e.taken("bounds as they were", 0, x -> {
            x.settle(1, 0, 0);
            return x.setBound(0, 1);
        });
    }

    // ---- promise 6: open

    private static void openPlace(Edges e) {
        e.sentence(6, "`place`: 0 to 11");
        e.on(() -> Stock.withSheets(3));
        e.range("open(..)", 0, 11, Checks.INDEX, CountSheets::open);
        e.sentence(6, "Throws `IndexOutOfBoundsException` if there is no such place");
        e.on(Stock::busy);
        e.farOut("open(..)", 0, 11, Checks.INDEX, CountSheets::open);
        e.on(() -> Stock.withSheets(40));
        e.noSuch("open(12) with 40 sheets", x -> x.open(12));
        e.noSuch("open(-1) with 40 sheets", x -> x.open(-1));
    }

    private static void openNumber(Edges e) {
        e.sentence(6, "Returns its number.");
        e.taken("the first and the second", "0 1", x -> x.open(11) + " " + x.open(0));
        e.on(() -> Stock.withSheets(38));
        e.taken("the last two", "38 39", x -> x.open(11) + " " + x.open(0));
    }

    private static void openRefused(Edges e) {
        e.sentence(6, "Throws `IllegalStateException` if there is an OPEN sheet for the place, or there are 40 sheets");
        e.on(() -> allOpen(12));
        for (int place = 0; place < 12; place++) {
            int p = place;
            e.wrongState("OPEN for " + p, x -> x.open(p));
            e.taken("CLOSED for " + p, 12, x -> {
                x.close(p);
                return x.open(p);
            });
        }
        e.on(() -> allOpen(11));
        e.taken("all but 11 OPEN", 11, x -> x.open(11));
        e.on(() -> {
            CountSheets x = Stock.withSheets(12);
            x.open(4);
            return x;
        });
        e.wrongState("CLOSED and then OPEN", x -> x.open(4));
        e.on(() -> Stock.withSheets(39));
        e.taken("39 sheets", 39, x -> x.open(4));
        e.on(() -> {
            CountSheets x = Stock.withSheets(39);
            x.open(4);
            return x;
        });
        e.wrongState("40 sheets, OPEN for the place", x -> x.open(4));
        e.wrongState("40 sheets, CLOSED for the place", x -> x.open(5));
        e.on(Stock::busyWith40Sheets);
        e.wrongState("40 sheets on a busy stock, OPEN for the place", x -> x.open(3));
        e.wrongState("40 sheets on a busy stock, CLOSED for the place", x -> x.open(11));
    }

    private static CountSheets allOpen(int places) {
        CountSheets x = new CountSheets();
        for (int place = 0; place < places; place++) {
            x.open(place);
        }
        return x;
    }

    // ---- promise 7: count

    private static void countSheet(Edges e) {
        e.sentence(7, "`sheet`: its number");
        e.on(() -> allOpen(12));
        e.range("count(.., 5, 4, 0)", 0, 11, Checks.INDEX, (x, sheet) -> x.count(sheet, 5, 4, 0));
        e.on(() -> {
            CountSheets x = Stock.withSheets(39);
            x.open(0);
            return x;
        });
        e.taken("count(39, 5, 4, 0)", false, x -> x.count(39, 5, 4, 0));
        e.noSuch("count(40, 5, 4, 0)", x -> x.count(40, 5, 4, 0));
        e.sentence(7, "Throws `IndexOutOfBoundsException` if there is no such sheet, person or article");
        e.on(Stock::busy);
        e.farOut("count(.., 5, 4, 0)", 0, 4, Checks.INDEX, (x, sheet) -> x.count(sheet, 5, 4, 0));
    }

    private static void countPerson(Edges e) {
        e.sentence(7, "`person`: 0 to 5");
        e.on(Stock::busy);
        e.range("count(3, .., 4, 0)", 0, 5, Checks.INDEX, (x, person) -> x.count(3, person, 4, 0));
        e.sentence(7, "Throws `IndexOutOfBoundsException` if there is no such sheet, person or article");
        e.on(Stock::busy);
        e.farOut("count(3, .., 4, 0)", 0, 5, Checks.INDEX, (x, person) -> x.count(3, person, 4, 0));
        e.noSuch("count(3, 32, 1, 0), 32 persons beyond one who counted", x -> x.count(3, 32, 1, 0));
        e.noSuch("count(3, 33, 1, 0), 32 persons beyond one who did not", x -> x.count(3, 33, 1, 0));
    }

    private static void countArticle(Edges e) {
        e.sentence(7, "`article`: 0 to 4");
        e.on(() -> allOpen(2));
        e.range("count(0, 0, .., 0)", 0, 4, Checks.INDEX, (x, article) -> x.count(0, 0, article, 0));
        e.range("count(1, 0, .., 0)", 0, 4, Checks.INDEX, (x, article) -> x.count(1, 0, article, 0));
        e.sentence(7, "Throws `IndexOutOfBoundsException` if there is no such sheet, person or article");
        e.on(Stock::busy);
        e.farOut("count(3, 2, .., 0)", 0, 4, Checks.INDEX, (x, article) -> x.count(3, 2, article, 0));
    }

    private static void countQuantity(Edges e) {
        e.sentence(7, "`quantity`: 0 to 100000");
        e.on(Stock::busy);
        e.range("count(3, 2, 4, ..)", 0, 100000, Checks.ARGUMENT, (x, quantity) -> x.count(3, 2, 4, quantity));
        e.taken("agreement on the least", 0, x -> {
            Stock.agree(x, 3, 4, 0);
            return x.agreed(3, 4);
        });
        e.taken("agreement on the most", 100000, x -> {
            Stock.agree(x, 3, 4, 100000);
            return x.agreed(3, 4);
        });
        e.sentence(7, "Throws `IllegalArgumentException` if quantity is out of range");
        e.on(Stock::busy);
        e.farOut("count(3, 2, 4, ..)", 0, 100000, Checks.ARGUMENT, (x, quantity) -> x.count(3, 2, 4, quantity));
        e.outOfRange("count(3, 2, 1, -1), a second one", x -> x.count(3, 2, 1, -1));
        e.outOfRange("count(3, 2, 2, 100001), a third one", x -> x.count(3, 2, 2, 100001));
    }

    private static void countAgrees(Edges e) {
        e.sentence(7, "Returns true if the counts agree then.");
        e.on(() -> open());
        e.taken("the first", false, x -> x.count(0, 3, 2, 0));
        e.on(() -> open(6));
        e.taken("the second, one less", false, x -> x.count(0, 3, 2, 5));
        e.taken("the second, the same", true, x -> x.count(0, 3, 2, 6));
        e.taken("the second, one more", false, x -> x.count(0, 3, 2, 7));
        e.on(() -> open(6, 8));
        for (int quantity = 5; quantity <= 9; quantity++) {
            int much = quantity;
            e.taken("the third, " + much, true, x -> x.count(0, 3, 2, much));
        }
    }

    private static void countRefused(Edges e) {
        e.sentence(7, "Throws `IllegalStateException` if the sheet is not OPEN, the person has counted the article on it, or the counts agree already");
        e.on(() -> closed());
        e.wrongState("CLOSED, without counts", x -> x.count(0, 0, 2, 1));
        e.on(() -> closed(1, 1));
        e.wrongState("CLOSED, another article", x -> x.count(0, 0, 3, 1));
        e.wrongState("CLOSED, a third person", x -> x.count(0, 2, 2, 1));
        e.on(() -> open());
        e.taken("OPEN", false, x -> x.count(0, 0, 2, 1));
        e.on(() -> open(1));
        e.wrongState("has counted, of one", x -> x.count(0, 0, 2, 1));
        e.taken("has not counted, of one", true, x -> x.count(0, 1, 2, 1));
        e.on(() -> open(1, 2));
        e.wrongState("has counted as the first of two", x -> x.count(0, 0, 2, 3));
        e.wrongState("has counted as the second of two", x -> x.count(0, 1, 2, 3));
        e.taken("has not counted, of two", true, x -> x.count(0, 2, 2, 3));
        e.on(() -> open(1, 1));
        e.wrongState("agree already, two", x -> x.count(0, 2, 2, 3));
        e.on(() -> open(1, 2, 3));
        e.wrongState("agree already, three", x -> x.count(0, 3, 2, 2));
    }

    // ---- promise 8: close

    private static void closeSheet(Edges e) {
        e.sentence(8, "`sheet`: its number");
        e.on(() -> allOpen(12));
        e.range("close(..)", 0, 11, Checks.INDEX, CountSheets::close);
        e.on(() -> {
            CountSheets x = Stock.withSheets(39);
            x.open(0);
            return x;
        });
        e.taken("close(39)", 0, x -> x.close(39));
        e.noSuch("close(40)", x -> x.close(40));
        e.sentence(8, "Throws `IndexOutOfBoundsException` if there is no such sheet");
        e.on(Stock::busy);
        e.farOut("close(..)", 0, 4, Checks.INDEX, CountSheets::close);
    }

    private static void closeAnswers(Edges e) {
        e.sentence(8, "Returns on how many articles counts agree.");
        for (int articles = 0; articles <= 5; articles++) {
            int many = articles;
            e.taken(many + " articles, from the first on", many, x -> {
                x.open(0);
                for (int article = 0; article < many; article++) {
                    Stock.agree(x, 0, article, 0);
                }
                return x.close(0);
            });
            e.taken(many + " articles, from the last on", many, x -> {
                x.open(0);
                for (int article = 4; article > 4 - many; article--) {
                    Stock.countAll(x, 0, article, 3, 1, 2);
                }
                return x.close(0);
            });
        }
    }

    private static void closeRefused(Edges e) {
        e.sentence(8, "Throws `IllegalStateException` if it is not OPEN, or an article was counted on it without agreement");
        e.on(() -> closed());
        e.wrongState("CLOSED", x -> x.close(0));
        e.on(() -> closed(4, 4));
        e.wrongState("CLOSED, with agreement", x -> x.close(0));
        for (int article = 0; article < 5; article++) {
            int a = article;
            closing(e, a, "one count", null, 4);
            closing(e, a, "two counts, one less", null, 4, 3);
            closing(e, a, "two counts, one more", null, 4, 5);
            closing(e, a, "two counts, the same", 1, 4, 4);
            closing(e, a, "three counts, two the same", 1, 4, 3, 4);
            closing(e, a, "three counts, all unlike", 1, 4, 3, 5);
            closing(e, a, "no count", 0);
        }
    }

    private static void closing(Edges e, int article, String what, Integer due, int... counts) {
        e.on(() -> {
            CountSheets x = new CountSheets();
            x.open(7);
            Stock.countAll(x, 0, article, counts);
            return x;
        });
        if (due == null) {
            e.wrongState(what + " of " + article, x -> x.close(0));
        } else {
            e.taken(what + " of " + article, due, x -> x.close(0));
        }
    }

    // ---- promise 9: sign

    private static void signSheet(Edges e) {
        e.sentence(9, "`sheet`: its number");
        e.on(() -> Stock.gaps(1, 2, 3, 4, 5, 6, 7, 8, 9, 10, 11, 12));
        e.range("sign(.., 0, 5)", 0, 11, Checks.INDEX, (x, sheet) -> x.sign(sheet, 0, 5));
        e.on(() -> {
            CountSheets x = Stock.withSheets(39);
            Stock.closed(x, 0, 4, 1);
            return x;
        });
        e.taken("sign(39, 4, 5)", 1, x -> x.sign(39, 4, 5));
        e.noSuch("sign(40, 4, 5)", x -> x.sign(40, 4, 5));
        e.sentence(9, "Throws `IndexOutOfBoundsException` if there is no such sheet, article or person");
        e.on(Stock::busy);
        e.farOut("sign(.., 0, 5)", 0, 4, Checks.INDEX, (x, sheet) -> x.sign(sheet, 0, 5));
    }

    private static void signArticleAndPerson(Edges e) {
        e.sentence(9, "`article`: 0 to 4");
        e.on(Stock::twoFullSheets);
        e.range("sign(0, .., 0)", 0, 4, Checks.INDEX, (x, article) -> x.sign(0, article, 0));
        e.range("sign(1, .., 0)", 0, 4, Checks.INDEX, (x, article) -> x.sign(1, article, 0));
        e.sentence(9, "`person`: 0 to 5");
        e.on(Stock::twoFullSheets);
        e.range("sign(0, 0, ..)", 0, 5, Checks.INDEX, (x, person) -> x.sign(0, 0, person));
        e.sentence(9, "Throws `IndexOutOfBoundsException` if there is no such sheet, article or person");
        e.on(Stock::twoFullSheets);
        e.farOut("sign(0, .., 0)", 0, 4, Checks.INDEX, (x, article) -> x.sign(0, article, 0));
        e.farOut("sign(0, 0, ..)", 0, 5, Checks.INDEX, (x, person) -> x.sign(0, 0, person));
    }

    private static void signGap(Edges e) {
        e.sentence(9, "Returns the gap that there was.");
        for (int gap = -2; gap <= 2; gap++) {
            int due = gap;
            e.on(() -> Stock.gaps(due));
            e.taken("a gap of " + due, due, x -> x.sign(0, 0, 0));
        }
        e.on(SheetsEdgesTest::greatestGapBelow0);
        e.taken("the greatest gap below 0", -300000, x -> {
            x.setPrice(0, 0);
            return x.sign(1, 0, 0);
        });
        e.taken("the greatest gap above 0", 300000, x -> {
            CountSheets y = new CountSheets();
            for (int i = 0; i < 200; i++) {
                y.move(3, NONE, 0, 1000, 0);
            }
            Stock.closed(y, 3, 0, 100000);
            y.setPrice(0, 0);
            return y.sign(0, 0, 0);
        });
    }

    private static void signWithoutAgreement(Edges e) {
        e.sentence(9, "Throws `java` .util.NoSuchElementException if the counts of the article on the sheet do not agree, or there are none");
        e.on(() -> open());
        e.noElement("none, OPEN", x -> x.sign(0, 2, 0));
        e.on(() -> closed());
        e.noElement("none, CLOSED", x -> x.sign(0, 2, 0));
        e.on(() -> open(4));
        e.noElement("one", x -> x.sign(0, 2, 0));
        e.on(() -> open(4, 5));
        e.noElement("two, unlike", x -> x.sign(0, 2, 0));
        e.on(() -> closed(4, 4));
        e.noElement("none of the next article", x -> x.sign(0, 3, 0));
        e.noElement("none of the article before", x -> x.sign(0, 1, 0));
        e.taken("two, the same", 4, x -> x.sign(0, 2, 0));
        e.on(() -> closed(4, 5, 6));
        e.taken("three, all unlike", 5, x -> x.sign(0, 2, 0));
    }

    private static void signRefused(Edges e) {
        e.sentence(9, "Throws `IllegalStateException` if the sheet is not CLOSED, the article is signed on it, or the person's bound is too low");
        e.on(() -> open(4, 4));
        e.wrongState("OPEN", x -> x.sign(0, 2, 0));
        e.taken("CLOSED then", 4, x -> {
            x.close(0);
            return x.sign(0, 2, 0);
        });
        e.on(() -> {
            CountSheets x = Stock.gaps(5, -5, 0);
            x.settle(0, 1, 0);
            x.sign(2, 0, 0);
            return x;
        });
        e.wrongState("settled, the gap above 0", x -> x.sign(0, 0, 0));
        e.wrongState("settled, the gap below 0", x -> x.sign(1, 0, 0));
        e.wrongState("signed, no gap", x -> x.sign(2, 0, 0));
        e.on(() -> closed(101, 101));
        e.wrongState("a bound of 100", x -> x.sign(0, 2, 4));
        e.taken("a bound of 101", 101, x -> {
            x.setBound(4, 101);
            return x.sign(0, 2, 4);
        });
        e.taken("a price of 0", 101, x -> {
            x.setPrice(2, 0);
            return x.sign(0, 2, 4);
        });
        e.on(() -> {
            CountSheets x = closed(101, 101);
            x.setBound(3, 101);
            x.setBound(5, 101);
            x.setPrice(1, 0);
            x.setPrice(3, 0);
            return x;
        });
        e.wrongState("bounds of other persons and prices of other articles", x -> x.sign(0, 2, 4));
    }

    // ---- promise 10: settle

    private static void settleSheets(Edges e) {
        e.sentence(10, "`sheet`: its number");
        e.on(() -> Stock.gaps(5, -5, 5));
        e.noSuch("settle(-1, 1, 0)", x -> x.settle(-1, 1, 0));
        e.taken("settle(0, 1, 0)", 5, x -> x.settle(0, 1, 0));
        e.taken("settle(2, 1, 0)", 5, x -> x.settle(2, 1, 0));
        e.noSuch("settle(3, 1, 0)", x -> x.settle(3, 1, 0));
        e.sentence(10, "`other`: the number of another sheet");
        e.on(() -> Stock.gaps(5, -5, 5));
        e.noSuch("settle(1, -1, 0)", x -> x.settle(1, -1, 0));
        e.taken("settle(1, 0, 0)", 5, x -> x.settle(1, 0, 0));
        e.wrongState("settle(1, 1, 0)", x -> x.settle(1, 1, 0));
        e.taken("settle(1, 2, 0)", 5, x -> x.settle(1, 2, 0));
        e.noSuch("settle(1, 3, 0)", x -> x.settle(1, 3, 0));
        e.on(() -> {
            CountSheets x = Stock.gaps(-5);
            Stock.addSheets(x, 38);
            Stock.closed(x, 1, 0, 5);
            return x;
        });
        e.taken("settle(0, 39, 0)", 5, x -> x.settle(0, 39, 0));
        e.taken("settle(39, 0, 0)", 5, x -> x.settle(39, 0, 0));
        e.noSuch("settle(0, 40, 0)", x -> x.settle(0, 40, 0));
        e.noSuch("settle(40, 0, 0)", x -> x.settle(40, 0, 0));
        e.sentence(10, "Throws `IndexOutOfBoundsException` if there is no such sheet or article");
        e.on(() -> Stock.gaps(5, -5));
        e.farOut("settle(.., 1, 0)", 0, 1, Checks.INDEX, (x, sheet) -> x.settle(sheet, 1, 0));
        e.farOut("settle(0, .., 0)", 0, 1, Checks.INDEX, (x, other) -> x.settle(0, other, 0));
        e.noSuch("settle(-1, -1, 0)", x -> x.settle(-1, -1, 0));
        e.noSuch("settle(2, 2, 0)", x -> x.settle(2, 2, 0));
    }

    private static void settleArticle(Edges e) {
        e.sentence(10, "`article`: 0 to 4");
        e.on(() -> {
            CountSheets x = new CountSheets();
            x.open(0);
            x.open(1);
            for (int article = 0; article < 5; article++) {
                x.move(NONE, 0, article, 5, 0);
                Stock.agree(x, 0, article, 0);
                Stock.agree(x, 1, article, 5);
            }
            x.close(0);
            x.close(1);
            return x;
        });
        e.range("settle(0, 1, ..)", 0, 4, Checks.INDEX, (x, article) -> x.settle(0, 1, article));
        e.range("settle(1, 0, ..)", 0, 4, Checks.INDEX, (x, article) -> x.settle(1, 0, article));
        e.sentence(10, "Throws `IndexOutOfBoundsException` if there is no such sheet or article");
        e.on(() -> Stock.gaps(5, -5));
        e.farOut("settle(0, 1, ..)", 0, 4, Checks.INDEX, (x, article) -> x.settle(0, 1, article));
    }

    private static void settleQuantity(Edges e) {
        e.sentence(10, "Returns the quantity that was at the wrong place: the gap that is above 0.");
        for (int gap : new int[] {1, 2, 99}) {
            e.on(() -> Stock.gaps(gap, -gap));
            e.taken(gap + " on the first sheet", gap, x -> x.settle(0, 1, 0));
            e.taken(gap + " on the other sheet", gap, x -> x.settle(1, 0, 0));
        }
    }

    private static void settleWithoutAgreement(Edges e) {
        e.sentence(10, "Throws `java` .util.NoSuchElementException if the counts of the article on one of the sheets do not agree, or there are none");
        int[][] without = {{}, {5}, {5, 6}};
        for (int[] counts : without) {
            e.on(() -> {
                CountSheets x = Stock.gaps(-5);
                x.open(1);
                Stock.countAll(x, 1, 0, counts);
                return x;
            });
            e.noElement(counts.length + " counts on the other sheet", x -> x.settle(0, 1, 0));
            e.noElement(counts.length + " counts on the first sheet", x -> x.settle(1, 0, 0));
            e.noElement(counts.length + " counts on both", x -> x.settle(1, 1, 0));
        }
        int[][] with = {{5, 5}, {4, 5, 5}, {6, 5, 4}};
        for (int[] counts : with) {
            e.on(() -> {
                CountSheets x = Stock.gaps(-5);
                x.open(1);
                Stock.countAll(x, 1, 0, counts);
                x.close(1);
                return x;
            });
            e.taken(counts.length + " counts that agree on the other sheet", 5, x -> x.settle(0, 1, 0));
            e.taken(counts.length + " counts that agree on the first sheet", 5, x -> x.settle(1, 0, 0));
        }
        e.on(() -> {
            CountSheets x = Stock.gaps(-5);
            x.close(x.open(1));
            return x;
        });
        e.noElement("none on the other sheet, CLOSED", x -> x.settle(0, 1, 0));
        e.noElement("none on the first sheet, CLOSED", x -> x.settle(1, 0, 0));
    }

    private static void settleRefused(Edges e) {
        e.sentence(10, "Throws `IllegalStateException` if they cannot be settled");
        e.on(Stock::busy);
        e.taken("they can", 5, x -> x.settle(1, 2, 0));
        e.wrongState("signed", x -> x.settle(0, 1, 0));
        e.wrongState("the other signed", x -> x.settle(1, 0, 0));
        e.wrongState("OPEN", x -> x.settle(3, 1, 0));
        e.wrongState("the other OPEN", x -> x.settle(1, 3, 0));
        e.wrongState("the same place", x -> x.settle(1, 1, 0));
        e.wrongState("gaps together -5", x -> x.settle(1, 4, 0));
        e.wrongState("gaps together 5", x -> x.settle(2, 4, 0));
        e.taken("together 0 still after a move later than the cuts", 5, x -> {
            x.move(NONE, 0, 0, 1, 11);
            return x.settle(1, 2, 0);
        });
        e.on(() -> {
            CountSheets x = Stock.busy();
            x.move(NONE, 0, 0, 1, 10);
            return x;
        });
        e.wrongState("together -1 after a move booked late", x -> x.settle(1, 2, 0));
    }
}
