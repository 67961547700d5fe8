import java.util.ArrayList;
import java.util.List;
import java.util.function.Function;
import java.util.function.Supplier;

/**
 * Looks at all that a stock holds: what its questions answer, and what only later calls bring out (prices, bounds, who
 * counted what, the next numbers). Each look changes the stock or takes many calls, so each gets a stock of its own and
 * that stock stays under 512 calls.
 */
final class Probe {
    static final List<Function<CountSheets, String>> LOOKS = looks();

    private static final int NONE = CountSheets.NONE;
    private static final int PLACES = 12;
    private static final int ARTICLES = 5;
    private static final int PERSONS = 6;
    private static final int SHEETS_OF_LOOK = 10;
    private static final int OPEN_SHEETS_OF_LOOK = 4;

    private Probe() {
    }

    private static List<Function<CountSheets, String>> looks() {
        List<Function<CountSheets, String>> looks = new ArrayList<>();
        looks.add(Probe::termsAndNumbers);
        looks.add(x -> books(x, x.now()));
        looks.add(x -> books(x, x.now() - 1));
        looks.add(x -> books(x, 0));
        for (int first = 0; first < 40; first += SHEETS_OF_LOOK) {
            int from = first;
            looks.add(x -> sheets(x, from));
            looks.add(x -> signatures(x, from));
        }
        looks.add(x -> furtherCounts(x, 0, 100000));
        looks.add(x -> furtherCounts(x, 100000, 0));
        looks.add(Probe::openingAndClosing);
        return looks;
    }

    /** What the call answers, or the name of what it throws. */
    static String answer(Supplier<Object> call) {
        try {
            return String.valueOf(call.get());
        } catch (RuntimeException e) {
            return e.getClass().getSimpleName();
        }
    }

    private static String termsAndNumbers(CountSheets x) {
        StringBuilder text = new StringBuilder();
        text.append("now ").append(x.now()).append(" moves ").append(x.moves()).append(" sheets ").append(x.sheets());
        text.append(" suggested ").append(x.suggested()).append(" exact");
        for (int zone = 0; zone < 3; zone++) {
            text.append(' ').append(x.exact(zone));
        }
        text.append(" prices");
        for (int article = 0; article < ARTICLES; article++) {
            text.append(' ').append(x.setPrice(article, 1));
        }
        text.append(" bounds");
        for (int person = 0; person < PERSONS; person++) {
            text.append(' ').append(x.setBound(person, 1));
        }
        text.append(" then ").append(x.pass(1));
        text.append(" next move ").append(answer(() -> x.move(NONE, 0, 0, 1, 0)));
        return text.toString();
    }

    private static String books(CountSheets x, int minute) {
        StringBuilder text = new StringBuilder("books at " + minute + ":");
        for (int place = 0; place < PLACES; place++) {
            int p = place;
            text.append(" (").append(x.worth(place));
            for (int article = 0; article < ARTICLES; article++) {
                int a = article;
                text.append(' ').append(answer(() -> minute == x.now() ? x.book(p, a) : x.bookAt(p, a, minute)));
            }
            text.append(')');
        }
        return text.toString();
    }

    private static String sheets(CountSheets x, int first) {
        StringBuilder text = new StringBuilder("sheets:");
        for (int sheet = first; sheet < Math.min(first + SHEETS_OF_LOOK, x.sheets()); sheet++) {
            text.append(' ').append(sheet).append(' ').append(x.stateOf(sheet)).append(' ').append(x.cutOf(sheet));
            for (int article = 0; article < ARTICLES; article++) {
                int s = sheet, a = article;
                text.append(" (").append(x.counts(s, a)).append(' ').append(x.agreed(s, a)).append(' ').append(x.isSigned(s, a));
                text.append(' ').append(x.likely(s, a)).append(' ').append(answer(() -> x.gap(s, a))).append(')');
            }
        }
        return text.toString();
    }

    private static String signatures(CountSheets x, int first) {
        StringBuilder text = new StringBuilder("signatures:");
        x.setBound(0, 1000000);
        for (int sheet = first; sheet < Math.min(first + SHEETS_OF_LOOK, x.sheets()); sheet++) {
            for (int article = 0; article < ARTICLES; article++) {
                int s = sheet, a = article;
                text.append(' ').append(answer(() -> x.sign(s, a, 0)));
            }
        }
        return text.toString();
    }

    // With the least and the greatest quantity beside them, counts that were there come out as the middle one.
    private static String furtherCounts(CountSheets x, int quantity, int other) {
        StringBuilder text = new StringBuilder("further counts:");
        int open = 0;
        for (int sheet = 0; sheet < x.sheets() && open < OPEN_SHEETS_OF_LOOK; sheet++) {
            if (x.stateOf(sheet) == CountSheets.OPEN) {
                open++;
                for (int article = 0; article < ARTICLES; article++) {
                    text.append(" (").append(furtherCountsOf(x, sheet, article, quantity, other)).append(')');
                }
            }
        }
        return text.toString();
    }

    private static String furtherCountsOf(CountSheets x, int sheet, int article, int quantity, int other) {
        StringBuilder text = new StringBuilder();
        for (int person = 0; person < PERSONS; person++) {
            int p = person, much = person % 2 == 0 ? quantity : other;
            text.append(answer(() -> x.count(sheet, p, article, much))).append(' ');
        }
        return text.append(x.agreed(sheet, article)).toString();
    }

    private static String openingAndClosing(CountSheets x) {
        StringBuilder text = new StringBuilder("opening:");
        for (int place = 0; place < PLACES; place++) {
            int p = place;
            text.append(' ').append(answer(() -> x.open(p)));
        }
        text.append(" closing:");
        for (int sheet = 0; sheet < x.sheets(); sheet++) {
            int s = sheet;
            text.append(' ').append(answer(() -> x.close(s)));
        }
        return text.toString();
    }
}
