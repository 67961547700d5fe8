import java.util.ArrayList;
import java.util.List;
import java.util.function.Function;
import java.util.function.Supplier;

/** Both sides of the boundaries in a sentence of the document: what is taken, and what is refused and changes nothing. */
final class Edges {
    /** Far beyond each range, and, cut to its lower 8 or 16 bits, within it again. */
    private static final int FAR = 1 << 20;

    /** Of a long range, so many values at both of its ends are tried. */
    private static final int FEW = 13;

    /** A call with the argument that the sentence is about. */
    interface CallWith {
        Object on(CountSheets x, int argument);
    }

    private final Checks c;
    private String words = "";
    private Supplier<CountSheets> stock = CountSheets::new;
    private List<String> untouched = null;

    Edges(String test) {
        c = new Checks(test);
    }

    /** The checks that follow are of this sentence, of a promise or (0) of the terms; they start on a new object. */
    void sentence(int promise, String words) {
        c.promise(promise);
        this.words = "\"" + words + "\": ";
        on(CountSheets::new);
    }

    /** Each check that follows starts on a stock made so. */
    void on(Supplier<CountSheets> stock) {
        this.stock = stock;
        untouched = null;
    }

    void taken(String what, Object due, Function<CountSheets, Object> call) {
        CountSheets x = stock.get();
        c.equal(words + what, Probe.answer(() -> call.apply(x)), String.valueOf(due));
    }

    void noSuch(String what, Function<CountSheets, Object> call) {
        refused(what, Checks.INDEX, call);
    }

    void outOfRange(String what, Function<CountSheets, Object> call) {
        refused(what, Checks.ARGUMENT, call);
    }

    void noElement(String what, Function<CountSheets, Object> call) {
        refused(what, Checks.ELEMENT, call);
    }

    void wrongState(String what, Function<CountSheets, Object> call) {
        refused(what, Checks.STATE, call);
    }

    /** The call throws this; afterwards nothing can be seen that differs from a stock on which it was not called. */
    void refused(String what, Class<? extends RuntimeException> due, Function<CountSheets, Object> call) {
        c.throwing(words + what, due, () -> call.apply(stock.get()));
        same(what, call);
    }

    /** A call that answers, but changes nothing. */
    void asked(String what, Object due, Function<CountSheets, Object> call) {
        taken(what, due, call);
        same(what, call);
    }

    /** The least and the most, and what is between, are taken; one less and one more are refused. */
    void range(String what, int least, int most, Class<? extends RuntimeException> due, CallWith call) {
        for (int value = least; value <= most; value = next(value, least, most)) {
            int argument = value;
            c.answering(words + what + " with " + value, () -> call.on(stock.get(), argument));
        }
        refused(what + " with " + (least - 1), due, x -> call.on(x, least - 1));
        refused(what + " with " + (most + 1), due, x -> call.on(x, most + 1));
    }

    void farOut(String what, int least, int most, Class<? extends RuntimeException> due, CallWith call) {
        for (int value : new int[] {Integer.MIN_VALUE, most - FAR, least + FAR, Integer.MAX_VALUE}) {
            refused(what + " with " + value, due, x -> call.on(x, value));
        }
    }

    void end() {
        c.end();
    }

    private static int next(int value, int least, int most) {
        return value == least + FEW && value < most - FEW ? most - FEW : value + 1;
    }

    private void same(String what, Function<CountSheets, Object> call) {
        if (untouched == null) {
            untouched = new ArrayList<>();
            for (Function<CountSheets, String> look : Probe.LOOKS) {
                untouched.add(look.apply(stock.get()));
            }
        }
        for (int i = 0; i < untouched.size(); i++) {
            CountSheets x = stock.get();
            Probe.answer(() -> call.apply(x));
            c.equal(words + "after " + what, Probe.LOOKS.get(i).apply(x), untouched.get(i));
        }
    }
}
