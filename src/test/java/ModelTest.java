import java.util.Random;
import java.util.function.Supplier;

/** Runs of 512 calls, always the same ones, each answered by the class as the model answers it. */
final class ModelTest {
    private static final int RUNS = 1500;
    private static final int CALLS = 512;

    private final Random random;
    private final Checks c;
    private final int style;
    private final CountSheets x = new CountSheets();
    private final Model model = new Model();
    private int now = 0;
    private int sheets = 0;

    private ModelTest(int run, Checks c) {
        this.random = new Random(run);
        this.c = c;
        this.style = run % 3;
    }

    public static void main(String[] args) {
        Checks c = new Checks("ModelTest");
        for (int run = 0; run < RUNS; run++) {
            ModelTest test = new ModelTest(run, c);
            for (int call = 0; call < CALLS; call++) {
                test.call(run);
            }
        }
        c.end();
    }

    private static String answer(Supplier<Object> call) {
        try {
            return String.valueOf(call.get());
        } catch (RuntimeException e) {
            return e.getClass().getSimpleName();
        }
    }

    private void same(String what, Supplier<Object> call, String due) {
        c.equal(what, answer(call), due);
    }

    // Now and then an argument one beyond its range, or far beyond it.
    private int pick(int least, int most) {
        int dice = random.nextInt(150);
        if (dice == 0) return least - 1;
        if (dice == 1) return most + 1;
        if (dice == 2) return random.nextInt();
        return least > most ? least : least + random.nextInt(most - least + 1);
    }

    private int place() {
        return style == 0 ? pick(0, 11) : pick(0, 3 + style);
    }

    private int article() {
        return style == 0 ? pick(0, 4) : pick(0, 1);
    }

    private int sheet() {
        return random.nextInt(3) == 0 ? pick(0, sheets - 1) : pick(Math.max(0, sheets - 4), sheets - 1);
    }

    private int quantity() {
        return random.nextInt(40) == 0 ? pick(0, 100000) : pick(0, 4);
    }

    private void call(int run) {
        int dice = random.nextInt(100);
        if (dice < 58) {
            change("run " + run + ": ", dice);
        } else {
            ask("run " + run + ": ", dice);
        }
    }

    private void change(String r, int dice) {
        int p = place(), q = pick(-1, 11), a = article(), s = sheet(), o = sheet(), n = pick(0, 5);
        if (dice < 3) {
            int price = random.nextBoolean() ? pick(0, 3) : pick(0, 1000);
            same(r + "setPrice", () -> x.setPrice(a, price), model.setPrice(a, price));
        } else if (dice < 6) {
            int bound = random.nextBoolean() ? pick(0, 20) : pick(0, 1000000);
            same(r + "setBound", () -> x.setBound(n, bound), model.setBound(n, bound));
        } else if (dice < 14) {
            int from = random.nextBoolean() ? -1 : q;
            int much = random.nextInt(10) == 0 ? pick(1, 1000) : pick(1, 3);
            int minute = random.nextBoolean() ? pick(0, now) : pick(Math.max(0, now - 3), now);
            boolean in = random.nextBoolean();
            same(r + "move", () -> in ? x.move(from, p, a, much, minute) : x.move(p, from, a, much, minute),
                    in ? model.move(from, p, a, much, minute) : model.move(p, from, a, much, minute));
        } else if (dice < 17) {
            int minutes = random.nextInt(10) == 0 ? pick(1, 1000) : pick(1, 3);
            same(r + "pass", () -> x.pass(minutes), model.pass(minutes));
            now = Integer.parseInt(model.now());
        } else if (dice < 21) {
            same(r + "open", () -> x.open(p), model.open(p));
            sheets = Integer.parseInt(model.sheets());
        } else if (dice < 41) {
            int much = quantity();
            same(r + "count", () -> x.count(s, n, a, much), model.count(s, n, a, much));
        } else if (dice < 47) {
            same(r + "close", () -> x.close(s), model.close(s));
        } else if (dice < 53) {
            same(r + "sign", () -> x.sign(s, a, n), model.sign(s, a, n));
        } else {
            int other = likelyOr(s, a, o);
            same(r + "settle", () -> x.settle(s, other, a), model.settle(s, other, a));
        }
    }

    private int likelyOr(int sheet, int article, int other) {
        String likely = model.likely(sheet, article);
        return likely.matches("\\d+") && random.nextBoolean() ? Integer.parseInt(likely) : other;
    }

    private void ask(String r, int dice) {
        int p = place(), a = article(), s = sheet(), z = pick(0, 2), m = pick(0, now);
        switch ((dice - 58) % 15) {
            case 0 -> same(r + "now", () -> x.now(), model.now());
            case 1 -> same(r + "moves", () -> x.moves(), model.moves());
            case 2 -> same(r + "book", () -> x.book(p, a), model.book(p, a));
            case 3 -> same(r + "bookAt", () -> x.bookAt(p, a, m), model.bookAt(p, a, m));
            case 4 -> same(r + "worth", () -> x.worth(p), model.worth(p));
            case 5 -> same(r + "suggested", () -> x.suggested(), model.suggested());
            case 6 -> same(r + "sheets", () -> x.sheets(), model.sheets());
            case 7 -> same(r + "stateOf", () -> x.stateOf(s), model.stateOf(s));
            case 8 -> same(r + "cutOf", () -> x.cutOf(s), model.cutOf(s));
            case 9 -> same(r + "counts", () -> x.counts(s, a), model.counts(s, a));
            case 10 -> same(r + "agreed", () -> x.agreed(s, a), model.agreed(s, a));
            case 11 -> same(r + "gap", () -> x.gap(s, a), model.gap(s, a));
            case 12 -> same(r + "isSigned", () -> x.isSigned(s, a), model.isSigned(s, a));
            case 13 -> same(r + "exact", () -> x.exact(z), model.exact(z));
            default -> same(r + "likely", () -> x.likely(s, a), model.likely(s, a));
        }
    }
}
