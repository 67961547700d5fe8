/** Makes what the tests count on, in few words. */
final class Stock {
    private static final int NONE = CountSheets.NONE;

    private Stock() {
    }

    /** Opens a sheet for the place on which two persons count the same quantity of the article. */
    static int counted(CountSheets x, int place, int article, int quantity) {
        int sheet = x.open(place);
        agree(x, sheet, article, quantity);
        return sheet;
    }

    static int closed(CountSheets x, int place, int article, int quantity) {
        int sheet = counted(x, place, article, quantity);
        x.close(sheet);
        return sheet;
    }

    static void agree(CountSheets x, int sheet, int article, int quantity) {
        x.count(sheet, 0, article, quantity);
        x.count(sheet, 1, article, quantity);
    }

    /** The persons 0, 1 and so on count these quantities. */
    static void countAll(CountSheets x, int sheet, int article, int... quantities) {
        for (int person = 0; person < quantities.length; person++) {
            x.count(sheet, person, article, quantities[person]);
        }
    }

    /** Time passes until now is this minute. */
    static void passTo(CountSheets x, int minute) {
        for (int left = minute - x.now(); left > 0; left -= 1000) {
            x.pass(Math.min(1000, left));
        }
    }

    /** Each move brings 1 of the article 0 to the place 0 at the minute 0. */
    static CountSheets withMoves(int moves) {
        CountSheets x = new CountSheets();
        for (int i = 0; i < moves; i++) {
            x.move(NONE, 0, 0, 1, 0);
        }
        return x;
    }

    /** CLOSED sheets without counts, for the places in turn. */
    static CountSheets withSheets(int sheets) {
        CountSheets x = new CountSheets();
        addSheets(x, sheets);
        return x;
    }

    static void addSheets(CountSheets x, int sheets) {
        for (int i = 0; i < sheets; i++) {
            x.close(x.open(x.sheets() % 12));
        }
    }

    /** Two CLOSED sheets, for the places 0 and 1, on which the counts of each article agree on its number and 1. */
    static CountSheets twoFullSheets() {
        CountSheets x = new CountSheets();
        for (int place = 0; place < 2; place++) {
            int sheet = x.open(place);
            for (int article = 0; article < 5; article++) {
                agree(x, sheet, article, 1 + article);
            }
            x.close(sheet);
        }
        return x;
    }

    /** For each gap a CLOSED sheet, for the places 0, 1 and so on, on which the article 0 has the gap. */
    static CountSheets gaps(int... gaps) {
        CountSheets x = new CountSheets();
        for (int place = 0; place < gaps.length; place++) {
            if (gaps[place] < 0) {
                x.move(NONE, place, 0, -gaps[place], 0);
            }
            closed(x, place, 0, Math.max(0, gaps[place]));
        }
        return x;
    }

    /**
     * Now is the minute 20. The sheet 0 is signed; the sheets 1 and 2 can be settled against one another; the sheet 3,
     * for the place 3, is OPEN with two counts that agree, one, two that do not, three that are all unlike, and none,
     * of the articles 0 to 4; the sheet 4 is CLOSED, with the gaps 0 and 200 of the articles 0 and 1.
     */
    static CountSheets busy() {
        CountSheets x = new CountSheets();
        x.pass(10);
        x.move(NONE, 0, 0, 30, 4);
        x.move(0, 1, 0, 10, 10);
        closed(x, 2, 0, 7);
        x.sign(0, 0, 0);
        closed(x, 0, 0, 15);
        closed(x, 1, 0, 15);
        x.open(3);
        agree(x, 3, 0, 200);
        countAll(x, 3, 1, 5);
        countAll(x, 3, 2, 1, 9);
        countAll(x, 3, 3, 2, 8, 4);
        x.open(4);
        agree(x, 4, 0, 0);
        agree(x, 4, 1, 200);
        x.close(4);
        x.pass(10);
        return x;
    }

    /** A busy stock with 198 moves more, from outside to the place 5. */
    static CountSheets busyWith200Moves() {
        CountSheets x = busy();
        for (int i = 2; i < 200; i++) {
            x.move(NONE, 5, 0, 1, 20);
        }
        return x;
    }

    /** A busy stock with 35 sheets more, CLOSED and without counts, for the places 4 to 11. */
    static CountSheets busyWith40Sheets() {
        CountSheets x = busy();
        for (int i = 5; i < 40; i++) {
            x.close(x.open(4 + i % 8));
        }
        return x;
    }
}
