import java.util.List;
import java.util.function.Function;

/** The terms of "Exceptions", and "Questions change nothing.", by sentences. */
final class ExceptionsEdgesTest {
    private static final int NONE = CountSheets.NONE;

    public static void main(String[] args) {
        Edges e = new Edges("ExceptionsEdgesTest");
        firstOfTerms(e);
        firstOfMove(e);
        firstOfMoveWith200(e);
        firstOfOpen(e);
        firstOfCount(e);
        firstOfSign(e);
        firstOfSettle(e);
        firstOfQuestions(e);
        refusedCallsChangeNothing(e);
        questionsChangeNothing(e);
        e.end();
    }

    private static void first(Edges e, int promise) {
        e.sentence(promise, "If several apply, the one that is named first in the throws clause is thrown.");
        e.on(Stock::busy);
    }

    private static void firstOfTerms(Edges e) {
        first(e, 2);
        e.noSuch("setPrice(5, 1001)", x -> x.setPrice(5, 1001));
        e.noSuch("setPrice(5, -1)", x -> x.setPrice(5, -1));
        e.noSuch("setPrice(-1, 1001)", x -> x.setPrice(-1, 1001));
        e.noSuch("setPrice(-1, -1)", x -> x.setPrice(-1, -1));
        first(e, 3);
        e.noSuch("setBound(6, 1000001)", x -> x.setBound(6, 1000001));
        e.noSuch("setBound(6, -1)", x -> x.setBound(6, -1));
        e.noSuch("setBound(-1, 1000001)", x -> x.setBound(-1, 1000001));
        e.noSuch("setBound(-1, -1)", x -> x.setBound(-1, -1));
    }

    private static void firstOfMove(Edges e) {
        first(e, 4);
        e.noSuch("no place from, and the same to", x -> x.move(12, 12, 0, 1, 0));
        e.noSuch("no place from, and no quantity", x -> x.move(12, 0, 0, 0, 0));
        e.noSuch("no place from, and too late", x -> x.move(-2, 0, 0, 1, 21));
        e.noSuch("no place to, and too much", x -> x.move(0, 12, 0, 1001, 0));
        e.noSuch("no place to, and before the minute 0", x -> x.move(0, -2, 0, 1, -1));
        e.noSuch("no article, and from and to the same", x -> x.move(0, 0, 5, 1, 0));
        e.noSuch("no article, and from and to outside", x -> x.move(NONE, NONE, -1, 1, 0));
        e.noSuch("no article, and no quantity", x -> x.move(0, 1, 5, 0, 0));
        e.noSuch("no article, and too late", x -> x.move(0, 1, -1, 1, 21));
    }

    private static void firstOfMoveWith200(Edges e) {
        first(e, 4);
        e.on(() -> Stock.withMoves(200));
        e.noSuch("200 moves, and no place from", x -> x.move(12, 0, 0, 1, 0));
        e.noSuch("200 moves, and no place to", x -> x.move(0, -2, 0, 1, 0));
        e.noSuch("200 moves, and no article", x -> x.move(0, 1, 5, 1, 0));
        e.noSuch("200 moves, no quantity, and no article", x -> x.move(0, 1, -1, 0, 0));
        e.outOfRange("200 moves, and from and to the same", x -> x.move(0, 0, 0, 1, 0));
        e.outOfRange("200 moves, and from and to outside", x -> x.move(NONE, NONE, 0, 1, 0));
        e.outOfRange("200 moves, and no quantity", x -> x.move(0, 1, 0, 0, 0));
        e.outOfRange("200 moves, and too much", x -> x.move(0, 1, 0, 1001, 0));
        e.outOfRange("200 moves, and before the minute 0", x -> x.move(0, 1, 0, 1, -1));
        e.outOfRange("200 moves, and too late", x -> x.move(0, 1, 0, 1, 1));
        e.wrongState("200 moves alone", x -> x.move(0, 1, 0, 1, 0));
    }

    private static void firstOfOpen(Edges e) {
        first(e, 6);
        e.on(() -> Stock.withSheets(40));
        e.noSuch("40 sheets, and no place 12", x -> x.open(12));
        e.noSuch("40 sheets, and no place -1", x -> x.open(-1));
        e.wrongState("40 sheets alone", x -> x.open(11));
    }

    private static void firstOfCount(Edges e) {
        first(e, 7);
        for (int quantity : new int[] {-1, 100001}) {
            e.noSuch("no sheet, and quantity " + quantity, x -> x.count(5, 0, 0, quantity));
            e.noSuch("no person, and quantity " + quantity, x -> x.count(3, 6, 4, quantity));
            e.noSuch("no article, and quantity " + quantity, x -> x.count(3, 2, 5, quantity));
            e.outOfRange("CLOSED, and quantity " + quantity, x -> x.count(1, 2, 4, quantity));
            e.outOfRange("has counted, and quantity " + quantity, x -> x.count(3, 0, 1, quantity));
            e.outOfRange("agree, and quantity " + quantity, x -> x.count(3, 5, 0, quantity));
            e.outOfRange("OPEN, and quantity " + quantity, x -> x.count(3, 5, 4, quantity));
        }
        e.noSuch("CLOSED, and no person", x -> x.count(1, 6, 0, 1));
        e.noSuch("CLOSED, and no article", x -> x.count(1, 0, 5, 1));
        e.noSuch("agree, and no person", x -> x.count(3, -1, 0, 1));
        e.noSuch("OPEN, and no article", x -> x.count(3, 0, -1, 1));
        e.wrongState("CLOSED alone", x -> x.count(1, 2, 4, 1));
        e.wrongState("has counted alone", x -> x.count(3, 0, 1, 1));
        e.wrongState("agree alone", x -> x.count(3, 5, 0, 1));
    }

    private static void firstOfSign(Edges e) {
        first(e, 9);
        e.noSuch("no agreement, and no person", x -> x.sign(3, 1, 6));
        e.noSuch("no counts, and no person", x -> x.sign(1, 4, -1));
        e.noSuch("OPEN, and no person", x -> x.sign(3, 0, 6));
        e.noSuch("OPEN, and no article", x -> x.sign(3, 5, 0));
        e.noSuch("signed, and no person", x -> x.sign(0, 0, 6));
        e.noSuch("a bound too low, and no person", x -> x.sign(4, 1, 6));
        e.noElement("OPEN, and one count", x -> x.sign(3, 1, 0));
        e.noElement("OPEN, and two counts that do not agree", x -> x.sign(3, 2, 0));
        e.noElement("OPEN, and no counts", x -> x.sign(3, 4, 0));
        e.wrongState("OPEN alone", x -> x.sign(3, 0, 0));
        e.wrongState("signed alone", x -> x.sign(0, 0, 0));
        e.wrongState("a bound too low alone", x -> x.sign(4, 1, 0));
    }

    private static void firstOfSettle(Edges e) {
        first(e, 10);
        e.noSuch("no sheet, the other without agreement", x -> x.settle(5, 3, 1));
        e.noSuch("the sheet without agreement, no other", x -> x.settle(3, 5, 1));
        e.noSuch("no sheet, the other OPEN", x -> x.settle(-1, 3, 0));
        e.noSuch("the sheet signed, no other", x -> x.settle(0, -1, 0));
        e.noSuch("OPEN and CLOSED, no article", x -> x.settle(3, 1, 5));
        e.noSuch("a sheet and itself, no article", x -> x.settle(1, 1, -1));
        e.noElement("OPEN and without agreement, the other CLOSED and without counts", x -> x.settle(3, 1, 1));
        e.noElement("CLOSED and without counts, the other OPEN and without agreement", x -> x.settle(1, 3, 1));
        e.noElement("a sheet and itself, without agreement", x -> x.settle(3, 3, 2));
        e.noElement("a sheet and itself, without counts", x -> x.settle(1, 1, 4));
        e.noElement("OPEN and without agreement, the other with it", x -> x.settle(3, 4, 1));
        e.noElement("with agreement, the other OPEN and without it", x -> x.settle(4, 3, 1));
        e.wrongState("OPEN alone", x -> x.settle(3, 1, 0));
        e.wrongState("a sheet and itself alone", x -> x.settle(1, 1, 0));
        e.on(() -> {
            CountSheets x = Stock.busy();
            x.open(2);
            return x;
        });
        e.noElement("signed, the other for the same place without counts", x -> x.settle(0, 5, 0));
        e.noElement("without counts, the other signed and for the same place", x -> x.settle(5, 0, 0));
    }

    private static void firstOfQuestions(Edges e) {
        first(e, 14);
        e.noSuch("no place, and too late", x -> x.bookAt(12, 0, 21));
        e.noSuch("no place, and before the minute 0", x -> x.bookAt(-1, 0, -1));
        e.noSuch("no article, and too late", x -> x.bookAt(0, 5, 21));
        e.noSuch("no article, and before the minute 0", x -> x.bookAt(0, -1, -1));
        e.outOfRange("too late alone", x -> x.bookAt(0, 0, 21));
        first(e, 22);
        e.noSuch("no article on a sheet without counts", x -> x.gap(3, 5));
        e.noSuch("no sheet", x -> x.gap(5, 4));
        e.noElement("without counts alone", x -> x.gap(3, 4));
    }

    /** Of each method the calls that it refuses on a busy stock, one after another. */
    private static List<Function<CountSheets, Object>> refusedCalls() {
        return List.of(
                x -> x.setPrice(5, 7), x -> x.setPrice(0, 1001), x -> x.setPrice(0, -1),
                x -> x.setBound(6, 7), x -> x.setBound(0, 1000001), x -> x.setBound(0, -1),
                x -> x.move(12, 0, 0, 1, 0), x -> x.move(0, 12, 0, 1, 0), x -> x.move(0, 1, 5, 1, 0),
                x -> x.move(0, 0, 0, 1, 0), x -> x.move(0, 1, 0, 1001, 0), x -> x.move(0, 1, 0, 1, 21),
                x -> x.pass(0), x -> x.pass(1001), x -> x.open(12), x -> x.open(3),
                x -> x.count(5, 0, 0, 1), x -> x.count(3, 6, 0, 1), x -> x.count(3, 2, 5, 1),
                x -> x.count(3, 2, 4, 100001), x -> x.count(3, 2, 4, -1), x -> x.count(3, 0, 1, 6),
                x -> x.count(3, 2, 0, 1), x -> x.count(2, 2, 2, 1),
                x -> x.close(3), x -> x.close(2), x -> x.close(5),
                x -> x.sign(5, 0, 0), x -> x.sign(1, 5, 0), x -> x.sign(1, 0, 6), x -> x.sign(1, 1, 0),
                x -> x.sign(3, 0, 0), x -> x.sign(0, 0, 0), x -> x.sign(4, 1, 0),
                x -> x.settle(1, 5, 0), x -> x.settle(1, 2, 5), x -> x.settle(1, 2, 1), x -> x.settle(1, 1, 0),
                x -> x.settle(0, 1, 0), x -> x.settle(1, 3, 0), x -> x.settle(1, 4, 0),
                x -> x.book(12, 0), x -> x.book(0, 5), x -> x.bookAt(12, 0, 0), x -> x.bookAt(0, 0, 21), x -> x.worth(12),
                x -> x.stateOf(5), x -> x.cutOf(5), x -> x.counts(5, 0), x -> x.agreed(5, 0), x -> x.gap(5, 0),
                x -> x.gap(3, 1), x -> x.isSigned(5, 0), x -> x.likely(5, 0), x -> x.exact(3));
    }

    private static void refusedCallsChangeNothing(Edges e) {
        e.sentence(0, "A call that throws an exception changes nothing.");
        e.on(Stock::busy);
        List<Function<CountSheets, Object>> calls = refusedCalls();
        e.asked("all refused calls, three times over", 3 * calls.size(), x -> {
            int thrown = 0;
            for (int i = 0; i < 3 * calls.size(); i++) {
                Function<CountSheets, Object> call = calls.get(i % calls.size());
                thrown += Probe.answer(() -> call.apply(x)).endsWith("Exception") ? 1 : 0;
            }
            return thrown;
        });
    }

    private static void questionsChangeNothing(Edges e) {
        e.sentence(0, "Questions change nothing.");
        e.on(Stock::busy);
        e.asked("now()", 20, CountSheets::now);
        e.asked("moves()", 2, CountSheets::moves);
        e.asked("book(0, 0)", 20, x -> x.book(0, 0));
        e.asked("bookAt(0, 0, 9)", 30, x -> x.bookAt(0, 0, 9));
        e.asked("worth(0)", 20, x -> x.worth(0));
        e.asked("suggested()", 0, CountSheets::suggested);
        e.asked("sheets()", 5, CountSheets::sheets);
        e.asked("stateOf(3)", 0, x -> x.stateOf(3));
        e.asked("cutOf(3)", 10, x -> x.cutOf(3));
        e.asked("counts(3, 3)", 3, x -> x.counts(3, 3));
        e.asked("agreed(3, 3)", 4, x -> x.agreed(3, 3));
        e.asked("gap(1, 0)", -5, x -> x.gap(1, 0));
        e.asked("isSigned(1, 0)", false, x -> x.isSigned(1, 0));
        e.asked("likely(1, 0)", 2, x -> x.likely(1, 0));
        e.asked("exact(0)", 0, x -> x.exact(0));
    }
}
