import java.util.Arrays;
import java.util.NoSuchElementException;

/** Stock counts while goods move: a book that follows from moves, and sheets on which it is counted. */
public final class CountSheets {
    public static final int NONE = -1;
    public static final int OPEN = 0, CLOSED = 1;

    private static final int ZONES = 3;
    private static final int PLACES_OF_ZONE = 4;
    private static final int PLACES = ZONES * PLACES_OF_ZONE;
    private static final int ARTICLES = 5;
    private static final int PERSONS = 6;
    private static final int MOST_MOVES = 200;
    private static final int MOST_SHEETS = 40;
    private static final int MOST_PRICE = 1000;
    private static final int MOST_BOUND = 1000000;
    private static final int MOST_MOVED = 1000;
    private static final int MOST_COUNTED = 100000;
    private static final int MOST_PASSED = 1000;
    private static final int FIRST_PRICE = 1;
    private static final int FIRST_BOUND = 100;
    private static final int THOUSAND = 1000;

    /** Before the minute 0: what is later than it is all minutes. */
    private static final int BEFORE_ALL = -1;

    private final int[] prices = new int[ARTICLES];
    private final int[] bounds = new int[PERSONS];
    private final MoveRows moveRows = new MoveRows();
    private final SheetRows sheetRows = new SheetRows();
    private final LineRows lineRows = new LineRows();
    private int minuteNow = 0;

    public CountSheets() {
        Arrays.fill(prices, FIRST_PRICE);
        Arrays.fill(bounds, FIRST_BOUND);
    }

    // ---- terms, moves and time

    public int setPrice(int article, int price) throws IndexOutOfBoundsException, IllegalArgumentException {
        checkIndex(article, ARTICLES);
        checkRange(price, 0, MOST_PRICE);
        int before = prices[article];
        prices[article] = price;
        return before;
    }

    public int setBound(int person, int bound) throws IndexOutOfBoundsException, IllegalArgumentException {
        checkIndex(person, PERSONS);
        checkRange(bound, 0, MOST_BOUND);
        int before = bounds[person];
        bounds[person] = bound;
        return before;
    }

    public int move(int from, int to, int article, int quantity, int minute)
            throws IndexOutOfBoundsException, IllegalArgumentException, IllegalStateException {
        checkPlaceOrOutside(from);
        checkPlaceOrOutside(to);
        checkIndex(article, ARTICLES);
        if (from == to) {
            throw new IllegalArgumentException("from and to are the same");
        }
        checkRange(quantity, 1, MOST_MOVED);
        checkRange(minute, 0, minuteNow);
        if (moveRows.size >= MOST_MOVES) {
            throw new IllegalStateException("there are 200 moves");
        }
        return moveRows.add(from, to, article, quantity, minute);
    }

    public int pass(int minutes) throws IllegalArgumentException {
        checkRange(minutes, 1, MOST_PASSED);
        minuteNow += minutes;
        return minuteNow;
    }

    // ---- sheets

    public int open(int place) throws IndexOutOfBoundsException, IllegalStateException {
        checkIndex(place, PLACES);
        if (sheetRows.isOpenFor(place)) {
            throw new IllegalStateException("there is an OPEN sheet for the place");
        }
        if (sheetRows.size >= MOST_SHEETS) {
            throw new IllegalStateException("there are 40 sheets");
        }
        return sheetRows.add(place, minuteNow);
    }

    public boolean count(int sheet, int person, int article, int quantity)
            throws IndexOutOfBoundsException, IllegalArgumentException, IllegalStateException {
        checkIndex(sheet, sheetRows.size);
        checkIndex(person, PERSONS);
        checkIndex(article, ARTICLES);
        checkRange(quantity, 0, MOST_COUNTED);
        int line = lineOf(sheet, article);
        if (sheetRows.closed[sheet]) {
            throw new IllegalStateException("the sheet is not OPEN");
        }
        if (lineRows.agrees(line)) {
            throw new IllegalStateException("the counts agree already");
        }
        if (lineRows.isCountedBy(line, person)) {
            throw new IllegalStateException("the person has counted the article on the sheet");
        }
        lineRows.add(line, person, quantity);
        return lineRows.agrees(line);
    }

    public int close(int sheet) throws IndexOutOfBoundsException, IllegalStateException {
        checkIndex(sheet, sheetRows.size);
        if (sheetRows.closed[sheet]) {
            throw new IllegalStateException("the sheet is not OPEN");
        }
        int agreeing = 0;
        for (int article = 0; article < ARTICLES; article++) {
            int line = lineOf(sheet, article);
            if (lineRows.agrees(line)) {
                agreeing++;
            } else if (lineRows.countsOn(line) > 0) {
                throw new IllegalStateException("an article was counted on the sheet without agreement");
            }
        }
        sheetRows.closed[sheet] = true;
        return agreeing;
    }

    public int sign(int sheet, int article, int person)
            throws IndexOutOfBoundsException, NoSuchElementException, IllegalStateException {
        checkIndex(sheet, sheetRows.size);
        checkIndex(article, ARTICLES);
        checkIndex(person, PERSONS);
        checkAgrees(sheet, article);
        if (!isSignable(sheet, article)) {
            throw new IllegalStateException("the sheet is not CLOSED, or the article is signed on it");
        }
        int gap = gapOf(sheet, article);
        if (bounds[person] < prices[article] * Math.abs(gap)) {
            throw new IllegalStateException("the person's bound is too low");
        }
        lineRows.write(lineOf(sheet, article), gap);
        return gap;
    }

    public int settle(int sheet, int other, int article)
            throws IndexOutOfBoundsException, NoSuchElementException, IllegalStateException {
        checkIndex(sheet, sheetRows.size);
        checkIndex(other, sheetRows.size);
        checkIndex(article, ARTICLES);
        checkAgrees(sheet, article);
        checkAgrees(other, article);
        if (!canBeSettled(sheet, other, article)) {
            throw new IllegalStateException("the gaps cannot be settled");
        }
        int gap = gapOf(sheet, article);
        lineRows.write(lineOf(sheet, article), gap);
        lineRows.write(lineOf(other, article), -gap);
        return Math.abs(gap);
    }

    // ---- the book

    public int now() {
        return minuteNow;
    }

    public int moves() {
        return moveRows.size;
    }

    public int book(int place, int article) throws IndexOutOfBoundsException {
        checkIndex(place, PLACES);
        checkIndex(article, ARTICLES);
        return bookOf(place, article, minuteNow);
    }

    public int bookAt(int place, int article, int minute) throws IndexOutOfBoundsException, IllegalArgumentException {
        checkIndex(place, PLACES);
        checkIndex(article, ARTICLES);
        checkRange(minute, 0, minuteNow);
        return bookOf(place, article, minute);
    }

    public int worth(int place) throws IndexOutOfBoundsException {
        checkIndex(place, PLACES);
        return worthOf(place);
    }

    public int suggested() {
        int best = NONE;
        long bestUrgency = 0;
        for (int place = 0; place < PLACES; place++) {
            if (!sheetRows.isOpenFor(place)) {
                long urgency = urgencyOf(place);
                if (best == NONE || urgency > bestUrgency) {
                    best = place;
                    bestUrgency = urgency;
                }
            }
        }
        return best;
    }

    // ---- sheets as they are

    public int sheets() {
        return sheetRows.size;
    }

    public int stateOf(int sheet) throws IndexOutOfBoundsException {
        checkIndex(sheet, sheetRows.size);
        return sheetRows.closed[sheet] ? CLOSED : OPEN;
    }

    public int cutOf(int sheet) throws IndexOutOfBoundsException {
        checkIndex(sheet, sheetRows.size);
        return sheetRows.cut[sheet];
    }

    public int counts(int sheet, int article) throws IndexOutOfBoundsException {
        checkLine(sheet, article);
        return lineRows.countsOn(lineOf(sheet, article));
    }

    public int agreed(int sheet, int article) throws IndexOutOfBoundsException {
        checkLine(sheet, article);
        return lineRows.agreement[lineOf(sheet, article)];
    }

    public int gap(int sheet, int article) throws IndexOutOfBoundsException, NoSuchElementException {
        checkLine(sheet, article);
        checkAgrees(sheet, article);
        return gapOf(sheet, article);
    }

    public boolean isSigned(int sheet, int article) throws IndexOutOfBoundsException {
        checkLine(sheet, article);
        return lineRows.hasSign(lineOf(sheet, article));
    }

    public int likely(int sheet, int article) throws IndexOutOfBoundsException {
        checkLine(sheet, article);
        for (int other = 0; other < sheetRows.size; other++) {
            if (canBeSettled(sheet, other, article)) {
                return other;
            }
        }
        return NONE;
    }

    public int exact(int zone) throws IndexOutOfBoundsException {
        checkIndex(zone, ZONES);
        int signed = 0;
        int withoutGap = 0;
        for (int sheet = 0; sheet < sheetRows.size; sheet++) {
            if (sheetRows.place[sheet] / PLACES_OF_ZONE == zone) {
                for (int article = 0; article < ARTICLES; article++) {
                    int line = lineOf(sheet, article);
                    if (lineRows.hasSign(line)) {
                        signed++;
                        withoutGap += lineRows.signedGap[line] == 0 ? 1 : 0;
                    }
                }
            }
        }
        return signed == 0 ? NONE : THOUSAND * withoutGap / signed;
    }

    // ---- what a call checks first

    private static void checkIndex(int index, int size) {
        if (index < 0 || index >= size) {
            throw new IndexOutOfBoundsException("there is no such place, zone, article, person or sheet");
        }
    }

    private static void checkPlaceOrOutside(int place) {
        if (place != NONE) {
            checkIndex(place, PLACES);
        }
    }

    private static void checkRange(int value, int least, int most) {
        if (value < least || value > most) {
            throw new IllegalArgumentException("an argument is out of its range");
        }
    }

    private void checkLine(int sheet, int article) {
        checkIndex(sheet, sheetRows.size);
        checkIndex(article, ARTICLES);
    }

    private void checkAgrees(int sheet, int article) {
        if (!lineRows.agrees(lineOf(sheet, article))) {
            throw new NoSuchElementException("the counts do not agree, or there are none");
        }
    }

    // ---- what follows from moves and signed counts

    private static int lineOf(int sheet, int article) {
        return sheet * ARTICLES + article;
    }

    private int bookOf(int place, int article, int minute) {
        int sheet = signedSheetFor(place, article, minute);
        if (sheet == NONE) {
            return moveRows.brought(place, article, BEFORE_ALL, minute);
        }
        int counted = lineRows.agreement[lineOf(sheet, article)];
        return counted + moveRows.brought(place, article, sheetRows.cut[sheet], minute);
    }

    /** The sheet with the signed count from which the book at a minute starts; NONE without one. */
    private int signedSheetFor(int place, int article, int minute) {
        int best = NONE;
        for (int sheet = 0; sheet < sheetRows.size; sheet++) {
            if (sheetRows.place[sheet] == place && sheetRows.cut[sheet] <= minute
                    && lineRows.hasSign(lineOf(sheet, article))
                    && (best == NONE || isStronger(sheet, best, article))) {
                best = sheet;
            }
        }
        return best;
    }

    private boolean isStronger(int sheet, int other, int article) {
        if (sheetRows.cut[sheet] != sheetRows.cut[other]) {
            return sheetRows.cut[sheet] > sheetRows.cut[other];
        }
        return lineRows.signature[lineOf(sheet, article)] > lineRows.signature[lineOf(other, article)];
    }

    private int worthOf(int place) {
        int worth = 0;
        for (int article = 0; article < ARTICLES; article++) {
            worth += prices[article] * Math.max(0, bookOf(place, article, minuteNow));
        }
        return worth;
    }

    // A long, as the worth alone can be near 700 million.
    private long urgencyOf(int place) {
        int latest = sheetRows.latestFor(place);
        long minutes = latest == NONE ? minuteNow + 1L : minuteNow - sheetRows.cut[latest];
        return (worthOf(place) + 1L) * minutes;
    }

    /** The gap of an article whose counts agree. */
    private int gapOf(int sheet, int article) {
        int line = lineOf(sheet, article);
        if (lineRows.hasSign(line)) {
            return lineRows.signedGap[line];
        }
        return lineRows.agreement[line] - bookOf(sheetRows.place[sheet], article, sheetRows.cut[sheet]);
    }

    private boolean isSignable(int sheet, int article) {
        int line = lineOf(sheet, article);
        return sheetRows.closed[sheet] && lineRows.agrees(line) && !lineRows.hasSign(line);
    }

    private boolean canBeSettled(int sheet, int other, int article) {
        if (sheetRows.place[sheet] == sheetRows.place[other]
                || !isSignable(sheet, article) || !isSignable(other, article)) {
            return false;
        }
        int gap = gapOf(sheet, article);
        return gap != 0 && gap + gapOf(other, article) == 0;
    }

    /** The moves, by their numbers. */
    private static final class MoveRows {
        private final int[] from = new int[MOST_MOVES];
        private final int[] to = new int[MOST_MOVES];
        private final int[] article = new int[MOST_MOVES];
        private final int[] quantity = new int[MOST_MOVES];
        private final int[] minute = new int[MOST_MOVES];
        private int size = 0;

        private int add(int source, int target, int what, int much, int when) {
            int number = size;
            from[number] = source;
            to[number] = target;
            article[number] = what;
            quantity[number] = much;
            minute[number] = when;
            size++;
            return number;
        }

        /** What moves brought to a place less what they took from it, after one minute and until another. */
        private int brought(int place, int what, int after, int until) {
            int sum = 0;
            for (int i = 0; i < size; i++) {
                if (article[i] == what && minute[i] > after && minute[i] <= until) {
                    if (to[i] == place) {
                        sum += quantity[i];
                    } else if (from[i] == place) {
                        sum -= quantity[i];
                    }
                }
            }
            return sum;
        }
    }

    /** The sheets, by their numbers. */
    private static final class SheetRows {
        private final int[] place = new int[MOST_SHEETS];
        private final int[] cut = new int[MOST_SHEETS];
        private final boolean[] closed = new boolean[MOST_SHEETS];
        private int size = 0;

        private int add(int where, int when) {
            int number = size;
            place[number] = where;
            cut[number] = when;
            size++;
            return number;
        }

        private boolean isOpenFor(int where) {
            int latest = latestFor(where);
            return latest != NONE && !closed[latest];
        }

        // The latest sheet of a place is its last one, and the only one that can be OPEN.
        private int latestFor(int where) {
            for (int sheet = size - 1; sheet >= 0; sheet--) {
                if (place[sheet] == where) {
                    return sheet;
                }
            }
            return NONE;
        }
    }

    /** The lines of all sheets, one for each article. */
    private static final class LineRows {
        private static final int LINES = MOST_SHEETS * ARTICLES;

        private final int[] persons = new int[LINES];
        private final int[] first = new int[LINES];
        private final int[] second = new int[LINES];
        private final int[] agreement = new int[LINES];
        private final int[] signature = new int[LINES];
        private final int[] signedGap = new int[LINES];
        private int signatures = 0;

        private LineRows() {
            Arrays.fill(agreement, NONE);
        }

        private int countsOn(int line) {
            return Integer.bitCount(persons[line]);
        }

        private boolean isCountedBy(int line, int person) {
            return (persons[line] & 1 << person) != 0;
        }

        private boolean agrees(int line) {
            return agreement[line] != NONE;
        }

        private boolean hasSign(int line) {
            return signature[line] != 0;
        }

        // A third count always brings agreement: of three with two the same, the middle one is theirs too.
        private void add(int line, int person, int quantity) {
            int before = countsOn(line);
            if (before == 0) {
                first[line] = quantity;
            } else if (before == 1) {
                second[line] = quantity;
                agreement[line] = first[line] == quantity ? quantity : NONE;
            } else {
                agreement[line] = middleOf(first[line], second[line], quantity);
            }
            persons[line] |= 1 << person;
        }

        private static int middleOf(int a, int b, int c) {
            return Math.max(Math.min(a, b), Math.min(Math.max(a, b), c));
        }

        // Signatures are numbered from 1, so that 0 is a line without one.
        private void write(int line, int gap) {
            signatures++;
            signature[line] = signatures;
            signedGap[line] = gap;
        }
    }
}
