/** Makes what the tests count on, in few words. */
final class Stock {
    private Stock() {
    }

    /** Opens a sheet for the place on which two persons count the same quantity of the article. */
    static int counted(CountSheets x, int place, int article, int quantity) {
        int sheet = x.open(place);
        agree(x, sheet, article, quantity);
        return sheet;
    }

    static int closed(CountSheets x, int place, int article, int quantity) {
        int sheet = counted(x, place, article, quantity);
        x.close(sheet);
        return sheet;
    }

    static void agree(CountSheets x, int sheet, int article, int quantity) {
        x.count(sheet, 0, article, quantity);
        x.count(sheet, 1, article, quantity);
    }

    /** Every answer to the questions, for a stock with a few sheets (so that an object stays under 512 calls). */
    static String answers(CountSheets x) {
        StringBuilder text = new StringBuilder();
        text.append(x.now()).append(' ').append(x.moves()).append(' ').append(x.suggested()).append(' ').append(x.sheets());
        for (int place = 0; place < 12; place++) {
            text.append("\nplace ").append(place).append(" worth ").append(x.worth(place)).append(" book");
            for (int article = 0; article < 5; article++) {
                text.append(' ').append(x.book(place, article));
            }
        }
        for (int zone = 0; zone < 3; zone++) {
            text.append("\nexact ").append(x.exact(zone));
        }
        for (int sheet = 0; sheet < x.sheets(); sheet++) {
            text.append("\nsheet ").append(sheet).append(' ').append(x.stateOf(sheet)).append(' ').append(x.cutOf(sheet));
            for (int article = 0; article < 5; article++) {
                int agreed = x.agreed(sheet, article);
                text.append(" (").append(x.counts(sheet, article)).append(' ').append(agreed);
                text.append(' ').append(x.isSigned(sheet, article)).append(' ').append(x.likely(sheet, article));
                text.append(' ').append(agreed == CountSheets.NONE ? "-" : String.valueOf(x.gap(sheet, article))).append(')');
            }
        }
        return text.toString();
    }
}
