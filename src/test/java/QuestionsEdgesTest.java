/** The promises 17 to 25: both sides of each boundary, by sentences. */
final class QuestionsEdgesTest {
    private static final int NONE = CountSheets.NONE;
    private static final int OPEN = CountSheets.OPEN;
    private static final int CLOSED = CountSheets.CLOSED;

    /** A question about a sheet, or about an article on it. */
    private interface Question {
        Object of(CountSheets x, int sheet, int article);
    }

    public static void main(String[] args) {
        Edges e = new Edges("QuestionsEdgesTest");
        howManySheets(e);
        aboutASheet(e, 18, "stateOf", "such sheet", (x, s, a) -> x.stateOf(s));
        openOrClosed(e);
        aboutASheet(e, 19, "cutOf", "such sheet", (x, s, a) -> x.cutOf(s));
        minuteOfTheCut(e);
        aboutAnArticle(e, 20, "counts", CountSheets::counts);
        countsFrom0To3(e);
        aboutAnArticle(e, 21, "agreed", CountSheets::agreed);
        agreedOrNone(e);
        aboutAnArticle(e, 22, "gap", CountSheets::gap);
        gapNow(e);
        gapThen(e);
        gapWithoutAgreement(e);
        aboutAnArticle(e, 23, "isSigned", CountSheets::isSigned);
        signedOrNot(e);
        aboutAnArticle(e, 24, "likely", CountSheets::likely);
        likelyLowest(e);
        likelyIfSettleWouldNotThrow(e);
        likelyNone(e);
        exactOfZone(e);
        exactThousandths(e);
        exactOfTheGapThen(e);
        exactNone(e);
        e.end();
    }

    // ---- what the promises 18 to 24 have in common

    private static void aboutASheet(Edges e, int promise, String name, String missing, Question question) {
        e.sentence(promise, "`sheet`: its number");
        e.noSuch(name + " without sheets", x -> question.of(x, 0, 4));
        for (int sheets : new int[] {1, 12, 40}) {
            e.on(() -> withCounts(sheets));
            e.range(name + " of a sheet", 0, sheets - 1, Checks.INDEX, (x, sheet) -> question.of(x, sheet, 4));
        }
        e.sentence(promise, "Throws `IndexOutOfBoundsException` if there is no " + missing);
        e.on(Stock::busy);
        e.farOut(name + " of a sheet", 0, 4, Checks.INDEX, (x, sheet) -> question.of(x, sheet, 0));
        e.asked(name + " of a sheet that there is", Probe.answer(() -> question.of(Stock.busy(), 3, 0)), x -> question.of(x, 3, 0));
    }

    private static void aboutAnArticle(Edges e, int promise, String name, Question question) {
        aboutASheet(e, promise, name, "such sheet or article", question);
        e.sentence(promise, "`article`: 0 to 4");
        e.on(Stock::twoFullSheets);
        e.range(name + " of an article on the first sheet", 0, 4, Checks.INDEX, (x, article) -> question.of(x, 0, article));
        e.range(name + " of an article on the last sheet", 0, 4, Checks.INDEX, (x, article) -> question.of(x, 1, article));
        e.sentence(promise, "Throws `IndexOutOfBoundsException` if there is no such sheet or article");
        e.on(Stock::twoFullSheets);
        e.farOut(name + " of an article", 0, 4, Checks.INDEX, (x, article) -> question.of(x, 1, article));
        e.noSuch(name + " of neither", x -> question.of(x, 2, 5));
    }

    /** CLOSED sheets for the places in turn, on each of which the counts of the article 4 agree on its number and 1. */
    private static CountSheets withCounts(int sheets) {
        CountSheets x = new CountSheets();
        for (int sheet = 0; sheet < sheets; sheet++) {
            Stock.closed(x, sheet % 12, 4, sheet + 1);
        }
        return x;
    }

    /** A sheet on which the persons 0, 1 and so on counted these quantities of the article 2, OPEN or CLOSED. */
    private static CountSheets counted(int state, int... quantities) {
        CountSheets x = new CountSheets();
        x.open(3);
        Stock.countAll(x, 0, 2, quantities);
        if (state == CLOSED) {
            x.close(0);
        }
        return x;
    }

    // ---- promises 17 to 19

    private static void howManySheets(Edges e) {
        e.sentence(17, "Returns how many sheets there are.");
        e.asked("none", 0, CountSheets::sheets);
        e.on(() -> counted(OPEN));
        e.asked("one, OPEN", 1, CountSheets::sheets);
        e.on(() -> counted(CLOSED));
        e.asked("one, CLOSED", 1, CountSheets::sheets);
        e.on(() -> Stock.withSheets(39));
        e.asked("39", 39, CountSheets::sheets);
        e.on(() -> Stock.withSheets(40));
        e.asked("40", 40, CountSheets::sheets);
    }

    private static void openOrClosed(Edges e) {
        e.sentence(18, "Returns OPEN or CLOSED.");
        e.on(() -> counted(OPEN));
        e.asked("opened", 0, x -> x.stateOf(0));
        e.on(() -> counted(CLOSED));
        e.asked("closed", 1, x -> x.stateOf(0));
        e.on(() -> {
            CountSheets x = Stock.withSheets(39);
            x.open(3);
            return x;
        });
        e.asked("the last of 40, opened", 0, x -> x.stateOf(39));
        e.asked("the last but one, closed", 1, x -> x.stateOf(38));
        e.asked("the first, closed", 1, x -> x.stateOf(0));
    }

    private static void minuteOfTheCut(Edges e) {
        e.sentence(19, "Returns the minute.");
        e.on(() -> {
            CountSheets x = Stock.withSheets(38);
            x.pass(1);
            x.close(x.open(0));
            x.pass(1000);
            x.open(0);
            x.pass(1000);
            return x;
        });
        e.asked("the minute 0", 0, x -> x.cutOf(37));
        e.asked("the minute 1", 1, x -> x.cutOf(38));
        e.asked("the minute 1001", 1001, x -> x.cutOf(39));
    }

    // ---- promises 20 and 21

    private static void countsFrom0To3(Edges e) {
        e.sentence(20, "Returns 0 to 3.");
        int[][] counts = {{}, {0}, {0, 0}, {0, 1}, {0, 1, 0}, {2, 1, 0}};
        for (int[] each : counts) {
            e.on(() -> counted(OPEN, each));
            e.asked(each.length + " counts", each.length, x -> x.counts(0, 2));
            e.asked("of the next article", 0, x -> x.counts(0, 3));
            e.asked("of the article before", 0, x -> x.counts(0, 1));
        }
        e.on(() -> counted(CLOSED, 5, 5));
        e.asked("two, CLOSED", 2, x -> x.counts(0, 2));
        e.on(() -> withCounts(40));
        e.asked("of the last sheet", 2, x -> x.counts(39, 4));
        e.taken("of six persons three", 3, x -> {
            CountSheets y = counted(OPEN);
            for (int person = 5; person >= 3; person--) {
                y.count(0, person, 2, person);
            }
            return y.counts(0, 2);
        });
    }

    private static void agreedOrNone(Edges e) {
        e.sentence(21, "Returns the quantity; NONE if they do not agree, or there are none.");
        e.on(() -> counted(OPEN));
        e.asked("none", NONE, x -> x.agreed(0, 2));
        e.on(() -> counted(CLOSED));
        e.asked("none, CLOSED", NONE, x -> x.agreed(0, 2));
        e.on(() -> counted(OPEN, 0));
        e.asked("one, 0", NONE, x -> x.agreed(0, 2));
        e.on(() -> counted(OPEN, 7));
        e.asked("one, 7", NONE, x -> x.agreed(0, 2));
        e.on(() -> counted(OPEN, 7, 8));
        e.asked("two, one more", NONE, x -> x.agreed(0, 2));
        e.on(() -> counted(OPEN, 7, 7));
        e.asked("two, the same", 7, x -> x.agreed(0, 2));
        e.asked("the next article", NONE, x -> x.agreed(0, 3));
        e.asked("the article before", NONE, x -> x.agreed(0, 1));
        e.on(() -> counted(OPEN, 0, 0));
        e.asked("two, the least", 0, x -> x.agreed(0, 2));
        e.on(() -> counted(CLOSED, 100000, 100000));
        e.asked("two, the most", 100000, x -> x.agreed(0, 2));
        e.on(() -> counted(CLOSED, 100000, 0, 1));
        e.asked("three, all unlike", 1, x -> x.agreed(0, 2));
        e.on(() -> withCounts(40));
        e.asked("of the first sheet", 1, x -> x.agreed(0, 4));
        e.asked("of the last sheet", 40, x -> x.agreed(39, 4));
    }

    // ---- promises 22 and 23

    private static void gapNow(Edges e) {
        e.sentence(22, "Returns the gap of an article on a sheet");
        for (int gap = -1; gap <= 1; gap++) {
            int due = gap;
            for (int state : new int[] {OPEN, CLOSED}) {
                e.on(() -> {
                    CountSheets x = new CountSheets();
                    x.move(NONE, 3, 2, 5, 0);
                    Stock.counted(x, 3, 2, 5 + due);
                    if (state == CLOSED) {
                        x.close(0);
                    }
                    x.pass(1);
                    return x;
                });
                e.asked("a gap of " + due, due, x -> x.gap(0, 2));
                e.taken("after a move booked late, at the cut", due - 1, x -> gapAfterMoveAt(x, 0));
                e.taken("after a move later than the cut", due, x -> gapAfterMoveAt(x, 1));
            }
        }
        e.on(() -> withCounts(40));
        e.asked("of the last sheet", 40, x -> x.gap(39, 4));
        e.on(() -> {
            CountSheets x = new CountSheets();
            x.move(3, NONE, 2, 1, 0);
            Stock.counted(x, 3, 2, 0);
            return x;
        });
        e.asked("with a book below 0", 1, x -> x.gap(0, 2));
    }

    private static int gapAfterMoveAt(CountSheets x, int minute) {
        x.move(NONE, 3, 2, 1, minute);
        return x.gap(0, 2);
    }

    private static void gapThen(Edges e) {
        e.sentence(22, "when it is signed, the gap that there was then");
        e.on(() -> {
            CountSheets x = counted(CLOSED, 5, 5);
            x.sign(0, 2, 0);
            return x;
        });
        e.asked("signed", 5, x -> x.gap(0, 2));
        e.taken("after a move booked late, at the cut", 5, x -> gapAfterMoveAt(x, 0));
        e.on(() -> {
            CountSheets x = counted(CLOSED, 5, 5);
            x.move(NONE, 4, 2, 5, 0);
            Stock.closed(x, 4, 2, 0);
            x.settle(0, 1, 2);
            x.move(NONE, 3, 2, 100, 0);
            x.move(NONE, 4, 2, 100, 0);
            return x;
        });
        e.asked("settled, above 0", 5, x -> x.gap(0, 2));
        e.asked("settled, below 0", -5, x -> x.gap(1, 2));
        e.on(() -> {
            CountSheets x = counted(CLOSED, 0, 0);
            x.sign(0, 2, 0);
            x.move(NONE, 3, 2, 9, 0);
            return x;
        });
        e.asked("signed without a gap", 0, x -> x.gap(0, 2));
    }

    private static void gapWithoutAgreement(Edges e) {
        e.sentence(22, "Throws `java` .util.NoSuchElementException if the counts of the article on the sheet do not agree, or there are none");
        e.on(() -> counted(OPEN));
        e.noElement("none", x -> x.gap(0, 2));
        e.on(() -> counted(CLOSED));
        e.noElement("none, CLOSED", x -> x.gap(0, 2));
        e.on(() -> counted(OPEN, 0));
        e.noElement("one", x -> x.gap(0, 2));
        e.on(() -> counted(OPEN, 0, 1));
        e.noElement("two, unlike", x -> x.gap(0, 2));
        e.on(() -> counted(OPEN, 1, 1));
        e.noElement("none of the next article", x -> x.gap(0, 3));
        e.noElement("none of the article before", x -> x.gap(0, 1));
        e.asked("two, the same", 1, x -> x.gap(0, 2));
        e.on(() -> counted(OPEN, 0, 1, 2));
        e.asked("three, all unlike", 1, x -> x.gap(0, 2));
    }

    private static void signedOrNot(Edges e) {
        e.sentence(23, "Returns true if it is.");
        e.on(() -> counted(OPEN, 0, 0));
        e.asked("OPEN", false, x -> x.isSigned(0, 2));
        e.on(() -> counted(CLOSED, 0, 0));
        e.asked("CLOSED", false, x -> x.isSigned(0, 2));
        e.on(() -> {
            CountSheets x = counted(CLOSED, 0, 0);
            x.sign(0, 2, 0);
            return x;
        });
        e.asked("signed, without a gap", true, x -> x.isSigned(0, 2));
        e.asked("the next article", false, x -> x.isSigned(0, 3));
        e.asked("the article before", false, x -> x.isSigned(0, 1));
        e.on(() -> {
            CountSheets x = withCounts(40);
            x.sign(39, 4, 0);
            x.sign(0, 4, 0);
            return x;
        });
        e.asked("the last sheet", true, x -> x.isSigned(39, 4));
        e.asked("the last but one", false, x -> x.isSigned(38, 4));
        e.asked("the first sheet", true, x -> x.isSigned(0, 4));
        e.asked("the second sheet", false, x -> x.isSigned(1, 4));
        e.on(() -> {
            CountSheets x = Stock.busy();
            x.settle(1, 2, 0);
            return x;
        });
        e.asked("settled", "true true", x -> x.isSigned(1, 0) + " " + x.isSigned(2, 0));
    }

    // ---- promise 24

    private static void likelyLowest(Edges e) {
        e.sentence(24, "Returns the lowest sheet for which settle() would not throw");
        e.on(() -> Stock.gaps(-4, 4, 4, -4, 3, -3));
        e.asked("of the sheet 0", 1, x -> x.likely(0, 0));
        e.asked("of the sheet 1", 0, x -> x.likely(1, 0));
        e.asked("of the sheet 2", 0, x -> x.likely(2, 0));
        e.asked("of the sheet 3", 1, x -> x.likely(3, 0));
        e.asked("of the sheet 4", 5, x -> x.likely(4, 0));
        e.asked("of the sheet 5", 4, x -> x.likely(5, 0));
        e.taken("the next lowest, once the lowest is signed", 2, x -> {
            x.sign(1, 0, 0);
            return x.likely(0, 0);
        });
        e.on(() -> {
            CountSheets x = Stock.gaps(-7);
            Stock.addSheets(x, 38);
            Stock.closed(x, 3, 0, 7);
            return x;
        });
        e.asked("the last of 40", 39, x -> x.likely(0, 0));
        e.asked("the first of 40", 0, x -> x.likely(39, 0));
    }

    private static void likelyIfSettleWouldNotThrow(Edges e) {
        e.sentence(24, "another sheet against which the gap of an article on a sheet could be settled now");
        likelyIs(e, "gaps 5 and -5", 1, () -> Stock.gaps(5, -5));
        likelyIs(e, "gaps 5 and -4", NONE, () -> Stock.gaps(5, -4));
        likelyIs(e, "gaps 5 and -6", NONE, () -> Stock.gaps(5, -6));
        likelyIs(e, "gaps 5 and 5", NONE, () -> Stock.gaps(5, 5));
        likelyIs(e, "gaps 0 and 0", NONE, () -> Stock.gaps(0, 0));
        likelyIs(e, "the other OPEN", NONE, () -> {
            CountSheets x = Stock.gaps(5);
            x.move(NONE, 1, 0, 5, 0);
            Stock.counted(x, 1, 0, 0);
            return x;
        });
        likelyIs(e, "for the same place", NONE, () -> {
            CountSheets x = Stock.gaps(5);
            x.pass(1);
            x.move(NONE, 0, 0, 10, 1);
            Stock.closed(x, 0, 0, 5);
            return x;
        });
        likelyIs(e, "of another article", NONE, () -> {
            CountSheets x = Stock.gaps(5);
            x.move(NONE, 1, 1, 5, 0);
            Stock.closed(x, 1, 1, 0);
            return x;
        });
        likelyIs(e, "the other signed", NONE, () -> {
            CountSheets x = Stock.gaps(5, -5);
            x.sign(1, 0, 0);
            return x;
        });
        likelyIs(e, "itself signed", NONE, () -> {
            CountSheets x = Stock.gaps(5, -5);
            x.sign(0, 0, 0);
            return x;
        });
        likelyIs(e, "the other without agreement", NONE, () -> {
            CountSheets x = Stock.gaps(5);
            x.move(NONE, 1, 0, 5, 0);
            x.open(1);
            Stock.countAll(x, 1, 0, 0, 1);
            return x;
        });
        likelyIs(e, "gaps 5 and -5 by a move booked late", 1, () -> {
            CountSheets x = Stock.gaps(5, -4);
            x.move(NONE, 1, 0, 1, 0);
            return x;
        });
        likelyIs(e, "no one's bound high enough", 1, () -> {
            CountSheets x = Stock.gaps(999, -999);
            x.setPrice(0, 1000);
            return x;
        });
    }

    private static void likelyIs(Edges e, String what, int due, java.util.function.Supplier<CountSheets> stock) {
        e.on(stock);
        e.asked(what, due, x -> x.likely(0, 0));
    }

    private static void likelyNone(Edges e) {
        e.sentence(24, "NONE if there is none.");
        e.on(() -> Stock.gaps(5));
        e.asked("no other sheet", NONE, x -> x.likely(0, 0));
        e.on(Stock::busy);
        e.asked("OPEN, agreeing", NONE, x -> x.likely(3, 0));
        e.asked("OPEN, with one count", NONE, x -> x.likely(3, 1));
        e.asked("OPEN, with two counts that do not agree", NONE, x -> x.likely(3, 2));
        e.asked("OPEN, without counts", NONE, x -> x.likely(3, 4));
        e.asked("CLOSED, without counts", NONE, x -> x.likely(1, 4));
        e.asked("CLOSED, no gap", NONE, x -> x.likely(4, 0));
        e.asked("signed", NONE, x -> x.likely(0, 0));
        e.asked("one that could be settled", 2, x -> x.likely(1, 0));
    }

    // ---- promise 25

    private static void exactOfZone(Edges e) {
        e.sentence(25, "`zone`: 0 to 2");
        e.on(Stock::busy);
        e.range("exact(..)", 0, 2, Checks.INDEX, CountSheets::exact);
        e.on(() -> {
            CountSheets x = Stock.withSheets(4);
            Stock.closed(x, 4, 0, 0);
            Stock.closed(x, 7, 4, 0);
            Stock.closed(x, 8, 0, 5);
            Stock.closed(x, 3, 0, 5);
            x.sign(4, 0, 0);
            x.sign(5, 4, 0);
            x.sign(6, 0, 0);
            x.sign(7, 0, 0);
            return x;
        });
        e.asked("the zone 0, of the place 3", 0, x -> x.exact(0));
        e.asked("the zone 1, of the places 4 and 7", 1000, x -> x.exact(1));
        e.asked("the zone 2, of the place 8", 0, x -> x.exact(2));
        e.sentence(25, "Throws `IndexOutOfBoundsException` if there is no such zone");
        e.on(Stock::busy);
        e.farOut("exact(..)", 0, 2, Checks.INDEX, CountSheets::exact);
        e.noSuch("exact(NONE)", x -> x.exact(NONE));
    }

    /** So many counts signed without a gap, and so many with a gap, at the places 8 to 11. */
    private static CountSheets signed(int without, int with) {
        CountSheets x = new CountSheets();
        for (int first = 0; first < without + with; first += 5) {
            int sheet = x.open(8 + x.sheets() % 4);
            int most = Math.min(5, without + with - first);
            for (int article = 0; article < most; article++) {
                Stock.agree(x, sheet, article, first + article < without ? 0 : 1);
            }
            x.close(sheet);
            for (int article = 0; article < most; article++) {
                x.sign(sheet, article, 0);
            }
        }
        return x;
    }

    private static void exactThousandths(Edges e) {
        e.sentence(25, "Returns 0 to 1000, rounded down");
        int[][] withoutWithDue = {
            {0, 1, 0}, {1, 0, 1000}, {1, 1, 500}, {1, 2, 333}, {2, 1, 666}, {1, 5, 166}, {5, 1, 833}, {1, 6, 142},
            {6, 1, 857}, {0, 20, 0}, {20, 0, 1000}, {19, 1, 950}, {1, 19, 50}, {1, 17, 55}, {17, 1, 944}};
        for (int[] each : withoutWithDue) {
            e.on(() -> signed(each[0], each[1]));
            e.asked(each[0] + " without and " + each[1] + " with a gap", each[2], x -> x.exact(2));
        }
        e.on(() -> signed(90, 1));
        e.taken("90 without and 1 with a gap", 989, x -> x.exact(2));
    }

    private static void exactOfTheGapThen(Edges e) {
        e.sentence(25, "of all signed counts of places of the zone the thousandths whose gap was 0");
        e.on(() -> {
            CountSheets x = signed(1, 0);
            x.move(NONE, 8, 0, 5, 0);
            return x;
        });
        e.asked("no gap then, one now", 1000, x -> x.exact(2));
        e.on(() -> {
            CountSheets x = signed(0, 1);
            x.move(NONE, 8, 0, 1, 0);
            return x;
        });
        e.asked("a gap then, none now", 0, x -> x.exact(2));
        e.on(() -> {
            CountSheets x = Stock.gaps(-1, 1, 0);
            x.settle(0, 1, 0);
            x.sign(2, 0, 0);
            return x;
        });
        e.asked("two that were settled, and one without a gap", 333, x -> x.exact(0));
        e.on(() -> {
            CountSheets x = signed(1, 0);
            Stock.closed(x, 9, 0, 1);
            return x;
        });
        e.asked("and one that is not signed", 1000, x -> x.exact(2));
        e.on(() -> {
            CountSheets x = Stock.withSheets(39);
            Stock.closed(x, 11, 4, 0);
            x.sign(39, 4, 0);
            return x;
        });
        e.asked("of the last sheet and article", 1000, x -> x.exact(2));
    }

    private static void exactNone(Edges e) {
        e.sentence(25, "NONE if there are none.");
        for (int zone = 0; zone < 3; zone++) {
            int z = zone;
            e.on(CountSheets::new);
            e.asked("without sheets", NONE, x -> x.exact(z));
            e.on(() -> Stock.withSheets(12));
            e.asked("without counts", NONE, x -> x.exact(z));
            e.on(() -> withCounts(12));
            e.asked("without signed counts", NONE, x -> x.exact(z));
            e.taken("with one", 0, x -> {
                x.sign(4 * z + 3, 4, 0);
                return x.exact(z);
            });
        }
    }
}
