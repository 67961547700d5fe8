import java.util.ArrayList;
import java.util.HashSet;
import java.util.List;
import java.util.Set;

/** The document once more, as slow and plain as can be, to be compared with the class; answers are texts. */
final class Model {
    private static final String INDEX = "IndexOutOfBoundsException";
    private static final String ARGUMENT = "IllegalArgumentException";
    private static final String STATE = "IllegalStateException";
    private static final String ELEMENT = "NoSuchElementException";

    private record Move(int from, int to, int article, int quantity, int minute) {
    }

    private static final class Article {
        final List<Integer> counts = new ArrayList<>();
        final Set<Integer> persons = new HashSet<>();
        Long gapThen = null;
    }

    private static final class Sheet {
        int place;
        int cut;
        boolean open = true;
        final List<Article> articles = List.of(new Article(), new Article(), new Article(), new Article(), new Article());
    }

    private record Signed(Sheet sheet, int article, int quantity) {
    }

    private final int[] prices = {1, 1, 1, 1, 1};
    private final int[] bounds = {100, 100, 100, 100, 100, 100};
    private final List<Move> moves = new ArrayList<>();
    private final List<Sheet> sheets = new ArrayList<>();
    private final List<Signed> signed = new ArrayList<>();
    private int now = 0;

    private static boolean in(int value, int least, int most) {
        return value >= least && value <= most;
    }

    private boolean noLine(int sheet, int article) {
        return !in(sheet, 0, sheets.size() - 1) || !in(article, 0, 4);
    }

    private Article line(int sheet, int article) {
        return sheets.get(sheet).articles.get(article);
    }

    private static Integer agreement(Article line) {
        List<Integer> counts = line.counts;
        for (int i = 0; i < counts.size(); i++) {
            for (int k = 0; k < i; k++) {
                if (counts.get(i).equals(counts.get(k))) {
                    return counts.get(i);
                }
            }
        }
        return counts.size() == 3 ? counts.stream().sorted().toList().get(1) : null;
    }

    private long bookOf(int place, int article, int minute) {
        Signed start = null;
        for (Signed each : signed) {
            if (each.sheet.place == place && each.article == article && each.sheet.cut <= minute
                    && (start == null || each.sheet.cut >= start.sheet.cut)) {
                start = each;
            }
        }
        long book = start == null ? 0 : start.quantity;
        for (Move move : moves) {
            boolean later = start == null || move.minute > start.sheet.cut;
            if (move.article == article && later && move.minute <= minute) {
                book += move.to == place ? move.quantity : 0;
                book -= move.from == place ? move.quantity : 0;
            }
        }
        return book;
    }

    private long gapOf(int sheet, int article) {
        Article line = line(sheet, article);
        if (line.gapThen != null) {
            return line.gapThen;
        }
        return agreement(line) - bookOf(sheets.get(sheet).place, article, sheets.get(sheet).cut);
    }

    private void signNow(int sheet, int article, long gap) {
        line(sheet, article).gapThen = gap;
        signed.add(new Signed(sheets.get(sheet), article, agreement(line(sheet, article))));
    }

    private long worthOf(int place) {
        long worth = 0;
        for (int article = 0; article < 5; article++) {
            worth += Math.max(0, prices[article] * bookOf(place, article, now));
        }
        return worth;
    }

    String setPrice(int article, int price) {
        if (!in(article, 0, 4)) return INDEX;
        if (!in(price, 0, 1000)) return ARGUMENT;
        int before = prices[article];
        prices[article] = price;
        return "" + before;
    }

    String setBound(int person, int bound) {
        if (!in(person, 0, 5)) return INDEX;
        if (!in(bound, 0, 1000000)) return ARGUMENT;
        int before = bounds[person];
        bounds[person] = bound;
        return "" + before;
    }

    String move(int from, int to, int article, int quantity, int minute) {
        if (!in(from, -1, 11) || !in(to, -1, 11) || !in(article, 0, 4)) return INDEX;
        if (from == to || !in(quantity, 1, 1000) || !in(minute, 0, now)) return ARGUMENT;
        if (moves.size() == 200) return STATE;
        moves.add(new Move(from, to, article, quantity, minute));
        return "" + (moves.size() - 1);
    }

    String pass(int minutes) {
        if (!in(minutes, 1, 1000)) return ARGUMENT;
        now += minutes;
        return "" + now;
    }

    String open(int place) {
        if (!in(place, 0, 11)) return INDEX;
        if (sheets.size() == 40 || sheets.stream().anyMatch(s -> s.open && s.place == place)) return STATE;
        Sheet sheet = new Sheet();
        sheet.place = place;
        sheet.cut = now;
        sheets.add(sheet);
        return "" + (sheets.size() - 1);
    }

    String count(int sheet, int person, int article, int quantity) {
        if (noLine(sheet, article) || !in(person, 0, 5)) return INDEX;
        if (!in(quantity, 0, 100000)) return ARGUMENT;
        Article line = line(sheet, article);
        if (!sheets.get(sheet).open || line.persons.contains(person) || agreement(line) != null) return STATE;
        line.persons.add(person);
        line.counts.add(quantity);
        return "" + (agreement(line) != null);
    }

    String close(int sheet) {
        if (noLine(sheet, 0)) return INDEX;
        Sheet each = sheets.get(sheet);
        if (!each.open || each.articles.stream().anyMatch(a -> !a.counts.isEmpty() && agreement(a) == null)) return STATE;
        each.open = false;
        return "" + each.articles.stream().filter(a -> agreement(a) != null).count();
    }

    String sign(int sheet, int article, int person) {
        if (noLine(sheet, article) || !in(person, 0, 5)) return INDEX;
        Article line = line(sheet, article);
        if (agreement(line) == null) return ELEMENT;
        if (sheets.get(sheet).open || line.gapThen != null) return STATE;
        long gap = gapOf(sheet, article);
        if (prices[article] * Math.abs(gap) > bounds[person]) return STATE;
        signNow(sheet, article, gap);
        return "" + gap;
    }

    private String settleError(int sheet, int other, int article) {
        if (noLine(sheet, article) || noLine(other, article)) return INDEX;
        if (agreement(line(sheet, article)) == null || agreement(line(other, article)) == null) return ELEMENT;
        if (sheets.get(sheet).open || sheets.get(other).open) return STATE;
        if (line(sheet, article).gapThen != null || line(other, article).gapThen != null) return STATE;
        if (sheets.get(sheet).place == sheets.get(other).place) return STATE;
        long gap = gapOf(sheet, article);
        return gap == 0 || gap != -gapOf(other, article) ? STATE : null;
    }

    String settle(int sheet, int other, int article) {
        String error = settleError(sheet, other, article);
        if (error != null) return error;
        long gap = gapOf(sheet, article);
        long otherGap = gapOf(other, article);
        signNow(sheet, article, gap);
        signNow(other, article, otherGap);
        return "" + Math.max(gap, otherGap);
    }

    String now() {
        return "" + now;
    }

    String moves() {
        return "" + moves.size();
    }

    String book(int place, int article) {
        return in(place, 0, 11) && in(article, 0, 4) ? "" + bookOf(place, article, now) : INDEX;
    }

    String bookAt(int place, int article, int minute) {
        if (!in(place, 0, 11) || !in(article, 0, 4)) return INDEX;
        return in(minute, 0, now) ? "" + bookOf(place, article, minute) : ARGUMENT;
    }

    String worth(int place) {
        return in(place, 0, 11) ? "" + worthOf(place) : INDEX;
    }

    String suggested() {
        int best = -1;
        long most = Long.MIN_VALUE;
        for (int place = 0; place < 12; place++) {
            Sheet latest = null;
            for (Sheet sheet : sheets) {
                latest = sheet.place == place ? sheet : latest;
            }
            long value = (worthOf(place) + 1) * (latest == null ? now + 1 : now - latest.cut);
            if ((latest == null || !latest.open) && value > most) {
                most = value;
                best = place;
            }
        }
        return "" + best;
    }

    String sheets() {
        return "" + sheets.size();
    }

    String stateOf(int sheet) {
        return noLine(sheet, 0) ? INDEX : sheets.get(sheet).open ? "0" : "1";
    }

    String cutOf(int sheet) {
        return noLine(sheet, 0) ? INDEX : "" + sheets.get(sheet).cut;
    }

    String counts(int sheet, int article) {
        return noLine(sheet, article) ? INDEX : "" + line(sheet, article).counts.size();
    }

    String agreed(int sheet, int article) {
        if (noLine(sheet, article)) return INDEX;
        Integer agreement = agreement(line(sheet, article));
        return agreement == null ? "-1" : "" + agreement;
    }

    String gap(int sheet, int article) {
        if (noLine(sheet, article)) return INDEX;
        return agreement(line(sheet, article)) == null ? ELEMENT : "" + gapOf(sheet, article);
    }

    String isSigned(int sheet, int article) {
        return noLine(sheet, article) ? INDEX : "" + (line(sheet, article).gapThen != null);
    }

    String likely(int sheet, int article) {
        if (noLine(sheet, article)) return INDEX;
        for (int other = 0; other < sheets.size(); other++) {
            if (settleError(sheet, other, article) == null) return "" + other;
        }
        return "-1";
    }

    String exact(int zone) {
        if (!in(zone, 0, 2)) return INDEX;
        long all = 0;
        long zero = 0;
        for (Sheet sheet : sheets) {
            for (Article line : sheet.articles) {
                if (sheet.place / 4 == zone && line.gapThen != null) {
                    all++;
                    zero += line.gapThen == 0 ? 1 : 0;
                }
            }
        }
        return all == 0 ? "-1" : "" + zero * 1000 / all;
    }
}
