/** Promises 1 to 5, 11 and 12: a new object, prices, bounds, moves and time. */
final class TermsTest {
    private static final int NONE = CountSheets.NONE;

    public static void main(String[] args) {
        Checks c = new Checks("TermsTest");
        aNewObject(c);
        setPrice(c);
        setBound(c);
        moveAnswers(c);
        moveThrows(c);
        pass(c);
        questions(c);
        c.end();
    }

    private static void aNewObject(Checks c) {
        c.promise(1);
        CountSheets x = new CountSheets();
        c.equal("now()", x.now(), 0);
        c.equal("moves()", x.moves(), 0);
        c.equal("sheets()", x.sheets(), 0);
        c.equal("suggested()", x.suggested(), 0);
        for (int place = 0; place < 12; place++) {
            c.equal("worth", x.worth(place), 0);
            for (int article = 0; article < 5; article++) {
                c.equal("book", x.book(place, article), 0);
                c.equal("bookAt", x.bookAt(place, article, 0), 0);
            }
        }
        for (int zone = 0; zone < 3; zone++) {
            c.equal("exact", x.exact(zone), NONE);
        }
        for (int article = 0; article < 5; article++) {
            c.equal("first price", x.setPrice(article, 7), 1);
        }
        for (int person = 0; person < 6; person++) {
            c.equal("first bound", x.setBound(person, 7), 100);
        }
        new CountSheets().setPrice(0, 99);
        c.equal("another object's price", x.setPrice(0, 1), 7);
        c.throwing("stateOf(0)", Checks.INDEX, () -> x.stateOf(0));
    }

    private static void setPrice(Checks c) {
        c.promise(2);
        CountSheets x = new CountSheets();
        c.equal("setPrice(0, 1000)", x.setPrice(0, 1000), 1);
        c.equal("setPrice(0, 0)", x.setPrice(0, 0), 1000);
        c.equal("setPrice(0, 5)", x.setPrice(0, 5), 0);
        c.equal("setPrice(4, 9)", x.setPrice(4, 9), 1);
        c.throwing("setPrice(0, -1)", Checks.ARGUMENT, () -> x.setPrice(0, -1));
        c.throwing("setPrice(0, 1001)", Checks.ARGUMENT, () -> x.setPrice(0, 1001));
        c.throwing("setPrice(-1, 1)", Checks.INDEX, () -> x.setPrice(-1, 1));
        c.throwing("setPrice(5, 1)", Checks.INDEX, () -> x.setPrice(5, 1));
        c.throwing("setPrice(5, -1), two reasons", Checks.INDEX, () -> x.setPrice(5, -1));
        c.throwing("setPrice(MIN, MIN)", Checks.INDEX, () -> x.setPrice(Integer.MIN_VALUE, Integer.MIN_VALUE));
        c.equal("setPrice(0, 6) after what threw", x.setPrice(0, 6), 5);
        x.move(NONE, 3, 4, 10, 0);
        c.equal("worth at the price of 9", x.worth(3), 90);
    }

    private static void setBound(Checks c) {
        c.promise(3);
        CountSheets x = new CountSheets();
        c.equal("setBound(5, 1000000)", x.setBound(5, 1000000), 100);
        c.equal("setBound(5, 0)", x.setBound(5, 0), 1000000);
        c.equal("setBound(5, 3)", x.setBound(5, 3), 0);
        c.equal("setBound(0, 3)", x.setBound(0, 3), 100);
        c.throwing("setBound(0, -1)", Checks.ARGUMENT, () -> x.setBound(0, -1));
        c.throwing("setBound(0, 1000001)", Checks.ARGUMENT, () -> x.setBound(0, 1000001));
        c.throwing("setBound(-1, 0)", Checks.INDEX, () -> x.setBound(-1, 0));
        c.throwing("setBound(6, 0)", Checks.INDEX, () -> x.setBound(6, 0));
        c.throwing("setBound(6, -1), two reasons", Checks.INDEX, () -> x.setBound(6, -1));
        c.throwing("setBound(MAX, MAX)", Checks.INDEX, () -> x.setBound(Integer.MAX_VALUE, Integer.MAX_VALUE));
        c.equal("setBound(0, 4) after what threw", x.setBound(0, 4), 3);
    }

    private static void moveAnswers(Checks c) {
        c.promise(4);
        CountSheets x = new CountSheets();
        x.pass(10);
        c.equal("from outside", x.move(NONE, 0, 0, 100, 4), 0);
        c.equal("between places", x.move(0, 11, 0, 30, 10), 1);
        c.equal("to outside", x.move(11, NONE, 0, 7, 10), 2);
        c.equal("the most, at the minute 0", x.move(NONE, 5, 4, 1000, 0), 3);
        c.equal("the least, below 0", x.move(5, 6, 3, 1, 10), 4);
        c.equal("book(0, 0)", x.book(0, 0), 70);
        c.equal("book(11, 0)", x.book(11, 0), 23);
        c.equal("book(5, 4)", x.book(5, 4), 1000);
        c.equal("book(5, 3)", x.book(5, 3), -1);
        c.equal("book(6, 3)", x.book(6, 3), 1);
        c.equal("book(0, 1)", x.book(0, 1), 0);
        for (int i = 5; i < 200; i++) {
            c.equal("a move", x.move(NONE, 1, 2, 1000, 10), i);
        }
        c.throwing("the 201st move", Checks.STATE, () -> x.move(NONE, 1, 2, 1, 0));
        c.throwing("the 201st move of 0", Checks.ARGUMENT, () -> x.move(NONE, 1, 2, 0, 0));
        c.throwing("the 201st move of the article 5", Checks.INDEX, () -> x.move(NONE, 1, 5, 0, 0));
        c.equal("book(1, 2)", x.book(1, 2), 195000);
        c.equal("moves()", x.moves(), 200);
    }

    private static void moveThrows(Checks c) {
        c.promise(4);
        CountSheets x = new CountSheets();
        x.pass(3);
        c.throwing("from -2", Checks.INDEX, () -> x.move(-2, 0, 0, 1, 0));
        c.throwing("from 12", Checks.INDEX, () -> x.move(12, 0, 0, 1, 0));
        c.throwing("to -2", Checks.INDEX, () -> x.move(0, -2, 0, 1, 0));
        c.throwing("to 12", Checks.INDEX, () -> x.move(0, 12, 0, 1, 0));
        c.throwing("article -1", Checks.INDEX, () -> x.move(0, 1, -1, 1, 0));
        c.throwing("article 5", Checks.INDEX, () -> x.move(0, 1, 5, 1, 0));
        c.throwing("from and to 12", Checks.INDEX, () -> x.move(12, 12, 0, 1, 0));
        c.throwing("from and to the same, article 5", Checks.INDEX, () -> x.move(1, 1, 5, 0, 4));
        c.throwing("from and to the same", Checks.ARGUMENT, () -> x.move(1, 1, 0, 1, 0));
        c.throwing("from outside to outside", Checks.ARGUMENT, () -> x.move(NONE, NONE, 0, 1, 0));
        c.throwing("quantity 0", Checks.ARGUMENT, () -> x.move(0, 1, 0, 0, 0));
        c.throwing("quantity -1", Checks.ARGUMENT, () -> x.move(0, 1, 0, -1, 0));
        c.throwing("quantity 1001", Checks.ARGUMENT, () -> x.move(0, 1, 0, 1001, 0));
        c.throwing("minute -1", Checks.ARGUMENT, () -> x.move(0, 1, 0, 1, -1));
        c.throwing("minute 4", Checks.ARGUMENT, () -> x.move(0, 1, 0, 1, 4));
        c.equal("moves() after what threw", x.moves(), 0);
        c.equal("minute 3", x.move(0, 1, 0, 1, 3), 0);
    }

    private static void pass(Checks c) {
        c.promise(5);
        CountSheets x = new CountSheets();
        c.equal("pass(1)", x.pass(1), 1);
        c.equal("pass(1000)", x.pass(1000), 1001);
        c.throwing("pass(0)", Checks.ARGUMENT, () -> x.pass(0));
        c.throwing("pass(-1)", Checks.ARGUMENT, () -> x.pass(-1));
        c.throwing("pass(1001)", Checks.ARGUMENT, () -> x.pass(1001));
        c.throwing("pass(MAX)", Checks.ARGUMENT, () -> x.pass(Integer.MAX_VALUE));
        c.equal("pass(5)", x.pass(5), 1006);
    }

    private static void questions(Checks c) {
        CountSheets x = new CountSheets();
        c.promise(11);
        x.pass(20);
        x.pass(22);
        c.equal("now()", x.now(), 42);
        c.equal("now() again", x.now(), 42);
        c.promise(12);
        x.move(0, 1, 0, 1, 0);
        x.move(0, 1, 0, 1, 42);
        c.equal("moves()", x.moves(), 2);
        c.equal("moves() again", x.moves(), 2);
    }
}
